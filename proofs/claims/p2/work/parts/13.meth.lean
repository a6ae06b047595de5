theorem d_X12_swapsAt_0 : decode prog_14_method_60_code 0 = .ok (.aload_n 0, 1) := by decide +kernel
theorem d_X12_swapsAt_1 : decode prog_14_method_60_code 1 = .ok (.getfield 9, 3) := by decide +kernel
theorem d_X12_swapsAt_4 : decode prog_14_method_60_code 4 = .ok (.iload_n 1, 1) := by decide +kernel
theorem d_X12_swapsAt_5 : decode prog_14_method_60_code 5 = .ok (.iload_n 2, 1) := by decide +kernel
theorem d_X12_swapsAt_6 : decode prog_14_method_60_code 6 = .ok (.iadd, 1) := by decide +kernel
theorem d_X12_swapsAt_7 : decode prog_14_method_60_code 7 = .ok (.iaload, 1) := by decide +kernel
theorem d_X12_swapsAt_8 : decode prog_14_method_60_code 8 = .ok (.istore 4, 2) := by decide +kernel
theorem d_X12_swapsAt_10 : decode prog_14_method_60_code 10 = .ok (.aload_n 0, 1) := by decide +kernel
theorem d_X12_swapsAt_11 : decode prog_14_method_60_code 11 = .ok (.getfield 9, 3) := by decide +kernel
theorem d_X12_swapsAt_14 : decode prog_14_method_60_code 14 = .ok (.iload_n 1, 1) := by decide +kernel
theorem d_X12_swapsAt_15 : decode prog_14_method_60_code 15 = .ok (.iload_n 2, 1) := by decide +kernel
theorem d_X12_swapsAt_16 : decode prog_14_method_60_code 16 = .ok (.iadd, 1) := by decide +kernel
theorem d_X12_swapsAt_17 : decode prog_14_method_60_code 17 = .ok (.aload_n 0, 1) := by decide +kernel
theorem d_X12_swapsAt_18 : decode prog_14_method_60_code 18 = .ok (.getfield 9, 3) := by decide +kernel
theorem d_X12_swapsAt_21 : decode prog_14_method_60_code 21 = .ok (.iload_n 1, 1) := by decide +kernel
theorem d_X12_swapsAt_22 : decode prog_14_method_60_code 22 = .ok (.iload_n 3, 1) := by decide +kernel
theorem d_X12_swapsAt_23 : decode prog_14_method_60_code 23 = .ok (.iadd, 1) := by decide +kernel
theorem d_X12_swapsAt_24 : decode prog_14_method_60_code 24 = .ok (.iaload, 1) := by decide +kernel
theorem d_X12_swapsAt_25 : decode prog_14_method_60_code 25 = .ok (.iastore, 1) := by decide +kernel
theorem d_X12_swapsAt_26 : decode prog_14_method_60_code 26 = .ok (.aload_n 0, 1) := by decide +kernel
theorem d_X12_swapsAt_27 : decode prog_14_method_60_code 27 = .ok (.getfield 9, 3) := by decide +kernel
theorem d_X12_swapsAt_30 : decode prog_14_method_60_code 30 = .ok (.iload_n 1, 1) := by decide +kernel
theorem d_X12_swapsAt_31 : decode prog_14_method_60_code 31 = .ok (.iload_n 3, 1) := by decide +kernel
theorem d_X12_swapsAt_32 : decode prog_14_method_60_code 32 = .ok (.iadd, 1) := by decide +kernel
theorem d_X12_swapsAt_33 : decode prog_14_method_60_code 33 = .ok (.iload 4, 2) := by decide +kernel
theorem d_X12_swapsAt_35 : decode prog_14_method_60_code 35 = .ok (.iastore, 1) := by decide +kernel
theorem d_X12_swapsAt_36 : decode prog_14_method_60_code 36 = .ok (.return_, 1) := by decide +kernel
def f_X12_swapsAt (a0 : Nat) (a1 : Int32) (a2 : Int32) (a3 : Int32) (μ : gm_M) : Option (Option Value × gm_M) := gm_gR μ [17] a0 1 (fun v1 => gm_aI μ v1 (a1 + a2) (fun v2 => gm_gR μ [17] a0 1 (fun v3 => gm_gR μ [17] a0 1 (fun v4 => gm_aI μ v4 (a1 + a3) (fun v5 => gm_sI μ v3 (a1 + a2) v5 (fun m6 => gm_gR m6 [17] a0 1 (fun v7 => gm_sI m6 v7 (a1 + a3) v2 (fun m8 => some (none, m8)))))))))
set_option maxHeartbeats 4000000 in
theorem c_X12_swapsAt (a0 : Nat) (a1 : Int32) (a2 : Int32) (a3 : Int32) (μ : gm_M) : gm_Call ({ cls := "GumBubbleModel", name := "swapsAt", desc := "(III)V" } : Jvm.MethodName) prog_14_method_60_code 5 none 0 0 0 [.ref a0, .int a1, .int a2, .int a3] μ (f_X12_swapsAt a0 a1 a2 a3 μ) := by
  refine gm_start PN_12 (Nat.le_of_ble_eq_true rfl) (fun res μe => ?_)
  unfold f_X12_swapsAt
  show gm_A "GumBubbleModel" (gm_nm "swapsAt") _ _ _ _ _ _ _ _ _ 0 [(0, .ref a0), (1, .int a1), (2, .int a2), (3, .int a3)] [] _ _
  refine gm_aload_n d_X12_swapsAt_0 rfl 0 rfl ?_
  refine gm_getR F_12_s gw_890 d_X12_swapsAt_1 (fun v1 _ => ?_)
  refine gm_iload_n d_X12_swapsAt_4 rfl 1 rfl ?_
  refine gm_iload_n d_X12_swapsAt_5 rfl 2 rfl ?_
  refine gm_iadd d_X12_swapsAt_6 ?_
  refine gm_iald d_X12_swapsAt_7 (fun v2 _ => ?_)
  refine gm_istore (L' := [(4, .int v2), (0, .ref a0), (1, .int a1), (2, .int a2), (3, .int a3)]) d_X12_swapsAt_8 (Nat.le_of_ble_eq_true rfl) rfl ?_
  refine gm_aload_n d_X12_swapsAt_10 rfl 1 rfl ?_
  refine gm_getR F_12_s gw_890 d_X12_swapsAt_11 (fun v3 _ => ?_)
  refine gm_iload_n d_X12_swapsAt_14 rfl 2 rfl ?_
  refine gm_iload_n d_X12_swapsAt_15 rfl 3 rfl ?_
  refine gm_iadd d_X12_swapsAt_16 ?_
  refine gm_aload_n d_X12_swapsAt_17 rfl 1 rfl ?_
  refine gm_getR F_12_s gw_890 d_X12_swapsAt_18 (fun v4 _ => ?_)
  refine gm_iload_n d_X12_swapsAt_21 rfl 2 rfl ?_
  refine gm_iload_n d_X12_swapsAt_22 rfl 4 rfl ?_
  refine gm_iadd d_X12_swapsAt_23 ?_
  refine gm_iald d_X12_swapsAt_24 (fun v5 _ => ?_)
  refine gm_iast d_X12_swapsAt_25 (fun m6 _ => ?_)
  refine gm_aload_n d_X12_swapsAt_26 rfl 1 rfl ?_
  refine gm_getR F_12_s gw_890 d_X12_swapsAt_27 (fun v7 _ => ?_)
  refine gm_iload_n d_X12_swapsAt_30 rfl 2 rfl ?_
  refine gm_iload_n d_X12_swapsAt_31 rfl 4 rfl ?_
  refine gm_iadd d_X12_swapsAt_32 ?_
  refine gm_iload d_X12_swapsAt_33 0 rfl ?_
  refine gm_iast d_X12_swapsAt_35 (fun m8 _ => ?_)
  exact gm_vret rfl d_X12_swapsAt_36 (Nat.le_of_ble_eq_true rfl) (Nat.le_of_ble_eq_true rfl) (fun h => h)
theorem d_X12_swaps_0 : decode prog_14_method_61_code 0 = .ok (.aload_n 0, 1) := by decide +kernel
theorem d_X12_swaps_1 : decode prog_14_method_61_code 1 = .ok (.iconst 1, 1) := by decide +kernel
theorem d_X12_swaps_2 : decode prog_14_method_61_code 2 = .ok (.iload_n 1, 1) := by decide +kernel
theorem d_X12_swaps_3 : decode prog_14_method_61_code 3 = .ok (.iload_n 2, 1) := by decide +kernel
theorem d_X12_swaps_4 : decode prog_14_method_61_code 4 = .ok (.invokevirtual 220, 3) := by decide +kernel
theorem d_X12_swaps_7 : decode prog_14_method_61_code 7 = .ok (.aload_n 0, 1) := by decide +kernel
theorem d_X12_swaps_8 : decode prog_14_method_61_code 8 = .ok (.bipush 6, 2) := by decide +kernel
theorem d_X12_swaps_10 : decode prog_14_method_61_code 10 = .ok (.iload_n 1, 1) := by decide +kernel
theorem d_X12_swaps_11 : decode prog_14_method_61_code 11 = .ok (.iload_n 2, 1) := by decide +kernel
theorem d_X12_swaps_12 : decode prog_14_method_61_code 12 = .ok (.invokevirtual 220, 3) := by decide +kernel
theorem d_X12_swaps_15 : decode prog_14_method_61_code 15 = .ok (.return_, 1) := by decide +kernel
def f_X12_swaps (a0 : Nat) (a1 : Int32) (a2 : Int32) (μ : gm_M) : Option (Option Value × gm_M) := if gm_tag μ a0 = 17 then gm_bV (f_X12_swapsAt a0 (1 : Int32) a1 a2 μ) (fun m1 => if gm_tag m1 a0 = 17 then gm_bV (f_X12_swapsAt a0 (6 : Int32) a1 a2 m1) (fun m3 => some (none, m3)) else none) else none
set_option maxHeartbeats 4000000 in
theorem c_X12_swaps (a0 : Nat) (a1 : Int32) (a2 : Int32) (μ : gm_M) : gm_Call ({ cls := "GumBubbleModel", name := "swaps", desc := "(II)V" } : Jvm.MethodName) prog_14_method_61_code 3 none 1 0 0 [.ref a0, .int a1, .int a2] μ (f_X12_swaps a0 a1 a2 μ) := by
  refine gm_start PN_12 (Nat.le_of_ble_eq_true rfl) (fun res μe => ?_)
  unfold f_X12_swaps
  show gm_A "GumBubbleModel" (gm_nm "swaps") _ _ _ _ _ _ _ _ _ 0 [(0, .ref a0), (1, .int a1), (2, .int a2)] [] _ _
  refine gm_aload_n d_X12_swaps_0 rfl 0 rfl ?_
  refine gm_iconst (v := 1) d_X12_swaps_1 (by decide) ?_
  refine gm_iload_n d_X12_swaps_2 rfl 1 rfl ?_
  refine gm_iload_n d_X12_swaps_3 rfl 2 rfl ?_
  refine gm_grd (fun g4 => ?_)
  refine gm_callV (k0 := 12) [.int (1 : Int32), .int a1, .int a2] (c_X12_swapsAt a0 (1 : Int32) a1 a2 μ) g4 rfl B_X12_swapsAt gw_1202 gs_58 rfl rfl rfl d_X12_swaps_4 (gm_kV (fun m1 => ?_))
  refine gm_aload_n d_X12_swaps_7 rfl 0 rfl ?_
  refine gm_bipush (v := 6) d_X12_swaps_8 (by decide) ?_
  refine gm_iload_n d_X12_swaps_10 rfl 1 rfl ?_
  refine gm_iload_n d_X12_swaps_11 rfl 2 rfl ?_
  refine gm_grd (fun g12 => ?_)
  refine gm_callV (k0 := 12) [.int (6 : Int32), .int a1, .int a2] (c_X12_swapsAt a0 (6 : Int32) a1 a2 m1) g12 rfl B_X12_swapsAt gw_1202 gs_58 rfl rfl rfl d_X12_swaps_12 (gm_kV (fun m3 => ?_))
  exact gm_vret rfl d_X12_swaps_15 (Nat.le_of_ble_eq_true rfl) (Nat.le_of_ble_eq_true rfl) (fun h => h)
theorem d_X12_swap_0 : decode prog_14_method_62_code 0 = .ok (.bipush (-5), 2) := by decide +kernel
theorem d_X12_swap_2 : decode prog_14_method_62_code 2 = .ok (.istore_n 1, 1) := by decide +kernel
theorem d_X12_swap_3 : decode prog_14_method_62_code 3 = .ok (.aload_n 0, 1) := by decide +kernel
theorem d_X12_swap_4 : decode prog_14_method_62_code 4 = .ok (.invokevirtual 164, 3) := by decide +kernel
theorem d_X12_swap_7 : decode prog_14_method_62_code 7 = .ok (.istore_n 2, 1) := by decide +kernel
theorem d_X12_swap_8 : decode prog_14_method_62_code 8 = .ok (.iconst 0, 1) := by decide +kernel
theorem d_X12_swap_9 : decode prog_14_method_62_code 9 = .ok (.istore_n 3, 1) := by decide +kernel
theorem d_X12_swap_10 : decode prog_14_method_62_code 10 = .ok (.iload_n 3, 1) := by decide +kernel
theorem d_X12_swap_11 : decode prog_14_method_62_code 11 = .ok (.aload_n 0, 1) := by decide +kernel
theorem d_X12_swap_12 : decode prog_14_method_62_code 12 = .ok (.getfield 9, 3) := by decide +kernel
theorem d_X12_swap_15 : decode prog_14_method_62_code 15 = .ok (.bipush 26, 2) := by decide +kernel
theorem d_X12_swap_17 : decode prog_14_method_62_code 17 = .ok (.iaload, 1) := by decide +kernel
theorem d_X12_swap_18 : decode prog_14_method_62_code 18 = .ok (.if_icmp .ge 83, 3) := by decide +kernel
theorem d_X12_swap_21 : decode prog_14_method_62_code 21 = .ok (.iload_n 3, 1) := by decide +kernel
theorem d_X12_swap_22 : decode prog_14_method_62_code 22 = .ok (.iconst 1, 1) := by decide +kernel
theorem d_X12_swap_23 : decode prog_14_method_62_code 23 = .ok (.iadd, 1) := by decide +kernel
theorem d_X12_swap_24 : decode prog_14_method_62_code 24 = .ok (.istore 4, 2) := by decide +kernel
theorem d_X12_swap_26 : decode prog_14_method_62_code 26 = .ok (.iload 4, 2) := by decide +kernel
theorem d_X12_swap_28 : decode prog_14_method_62_code 28 = .ok (.aload_n 0, 1) := by decide +kernel
theorem d_X12_swap_29 : decode prog_14_method_62_code 29 = .ok (.getfield 9, 3) := by decide +kernel
theorem d_X12_swap_32 : decode prog_14_method_62_code 32 = .ok (.bipush 26, 2) := by decide +kernel
theorem d_X12_swap_34 : decode prog_14_method_62_code 34 = .ok (.iaload, 1) := by decide +kernel
theorem d_X12_swap_35 : decode prog_14_method_62_code 35 = .ok (.if_icmp .ge 60, 3) := by decide +kernel
theorem d_X12_swap_38 : decode prog_14_method_62_code 38 = .ok (.aload_n 0, 1) := by decide +kernel
theorem d_X12_swap_39 : decode prog_14_method_62_code 39 = .ok (.iload_n 3, 1) := by decide +kernel
theorem d_X12_swap_40 : decode prog_14_method_62_code 40 = .ok (.iload 4, 2) := by decide +kernel
theorem d_X12_swap_42 : decode prog_14_method_62_code 42 = .ok (.invokevirtual 224, 3) := by decide +kernel
theorem d_X12_swap_45 : decode prog_14_method_62_code 45 = .ok (.aload_n 0, 1) := by decide +kernel
theorem d_X12_swap_46 : decode prog_14_method_62_code 46 = .ok (.invokevirtual 164, 3) := by decide +kernel
theorem d_X12_swap_49 : decode prog_14_method_62_code 49 = .ok (.istore 5, 2) := by decide +kernel
theorem d_X12_swap_51 : decode prog_14_method_62_code 51 = .ok (.aload_n 0, 1) := by decide +kernel
theorem d_X12_swap_52 : decode prog_14_method_62_code 52 = .ok (.iload_n 3, 1) := by decide +kernel
theorem d_X12_swap_53 : decode prog_14_method_62_code 53 = .ok (.iload 4, 2) := by decide +kernel
theorem d_X12_swap_55 : decode prog_14_method_62_code 55 = .ok (.invokevirtual 224, 3) := by decide +kernel
theorem d_X12_swap_58 : decode prog_14_method_62_code 58 = .ok (.iload 5, 2) := by decide +kernel
theorem d_X12_swap_60 : decode prog_14_method_62_code 60 = .ok (.iload_n 2, 1) := by decide +kernel
theorem d_X12_swap_61 : decode prog_14_method_62_code 61 = .ok (.if_icmp .le 13, 3) := by decide +kernel
theorem d_X12_swap_64 : decode prog_14_method_62_code 64 = .ok (.bipush 10, 2) := by decide +kernel
theorem d_X12_swap_66 : decode prog_14_method_62_code 66 = .ok (.iload_n 3, 1) := by decide +kernel
theorem d_X12_swap_67 : decode prog_14_method_62_code 67 = .ok (.imul, 1) := by decide +kernel
theorem d_X12_swap_68 : decode prog_14_method_62_code 68 = .ok (.iload 4, 2) := by decide +kernel
theorem d_X12_swap_70 : decode prog_14_method_62_code 70 = .ok (.iadd, 1) := by decide +kernel
theorem d_X12_swap_71 : decode prog_14_method_62_code 71 = .ok (.goto 4, 3) := by decide +kernel
theorem d_X12_swap_74 : decode prog_14_method_62_code 74 = .ok (.iload_n 1, 1) := by decide +kernel
theorem d_X12_swap_75 : decode prog_14_method_62_code 75 = .ok (.istore_n 1, 1) := by decide +kernel
theorem d_X12_swap_76 : decode prog_14_method_62_code 76 = .ok (.iload 5, 2) := by decide +kernel
theorem d_X12_swap_78 : decode prog_14_method_62_code 78 = .ok (.iload_n 2, 1) := by decide +kernel
theorem d_X12_swap_79 : decode prog_14_method_62_code 79 = .ok (.if_icmp .le 8, 3) := by decide +kernel
theorem d_X12_swap_82 : decode prog_14_method_62_code 82 = .ok (.iload 5, 2) := by decide +kernel
theorem d_X12_swap_84 : decode prog_14_method_62_code 84 = .ok (.goto 4, 3) := by decide +kernel
theorem d_X12_swap_87 : decode prog_14_method_62_code 87 = .ok (.iload_n 2, 1) := by decide +kernel
theorem d_X12_swap_88 : decode prog_14_method_62_code 88 = .ok (.istore_n 2, 1) := by decide +kernel
theorem d_X12_swap_89 : decode prog_14_method_62_code 89 = .ok (.iinc 4 1, 3) := by decide +kernel
theorem d_X12_swap_92 : decode prog_14_method_62_code 92 = .ok (.goto (-66), 3) := by decide +kernel
theorem d_X12_swap_95 : decode prog_14_method_62_code 95 = .ok (.iinc 3 1, 3) := by decide +kernel
theorem d_X12_swap_98 : decode prog_14_method_62_code 98 = .ok (.goto (-88), 3) := by decide +kernel
theorem d_X12_swap_101 : decode prog_14_method_62_code 101 = .ok (.iload_n 1, 1) := by decide +kernel
theorem d_X12_swap_102 : decode prog_14_method_62_code 102 = .ok (.ireturn, 1) := by decide +kernel
def f_X12_swap (a0 : Nat) (μ : gm_M) : Option (Option Value × gm_M) := if gm_tag μ a0 = 17 then gm_bI (f_X12_allHold a0 μ) (fun x2 m1 => gm_loop (fun (s3 : Int32 × Int32 × Int32 × gm_M) => gm_gR s3.2.2.2 [17] a0 1 (fun v4 => gm_aI s3.2.2.2 v4 (26 : Int32) (fun v5 => if v5 ≤ s3.2.2.1 then some (Sum.inr (some (.int s3.1), s3.2.2.2)) else gm_loop (fun (s6 : Int32 × Int32 × Int32 × gm_M) => gm_gR s6.2.2.2 [17] a0 1 (fun v7 => gm_aI s6.2.2.2 v7 (26 : Int32) (fun v8 => if v8 ≤ s6.2.2.1 then some (Sum.inr (Sum.inl (s6.1, s6.2.1, (s3.2.2.1 + (1 : Int32)), s6.2.2.2))) else if gm_tag s6.2.2.2 a0 = 17 then gm_bV (f_X12_swaps a0 s3.2.2.1 s6.2.2.1 s6.2.2.2) (fun m9 => if gm_tag m9 a0 = 17 then gm_bI (f_X12_allHold a0 m9) (fun x12 m11 => if gm_tag m11 a0 = 17 then gm_bV (f_X12_swaps a0 s3.2.2.1 s6.2.2.1 m11) (fun m13 => gm_j (fun (s15 : Int32) => gm_j (fun (s17 : Int32) => some (Sum.inl (s15, s17, (s6.2.2.1 + (1 : Int32)), m13))) (fun j18 => if x12 ≤ s6.2.1 then j18 s6.2.1 else j18 x12)) (fun j16 => if x12 ≤ s6.2.1 then j16 s6.1 else j16 (((10 : Int32) * s3.2.2.1) + s6.2.2.1))) else none) else none) else none))) 5000 (s3.1, s3.2.1, (s3.2.2.1 + (1 : Int32)), s3.2.2.2)))) 5000 ((-5 : Int32), x2, (0 : Int32), m1)) else none
set_option maxHeartbeats 4000000 in
theorem c_X12_swap (a0 : Nat) (μ : gm_M) : gm_Call ({ cls := "GumBubbleModel", name := "swap", desc := "()I" } : Jvm.MethodName) prog_14_method_62_code 6 (some .int) 5 0 0 [.ref a0] μ (f_X12_swap a0 μ) := by
  refine gm_start PN_12 (Nat.le_of_ble_eq_true rfl) (fun res μe => ?_)
  unfold f_X12_swap
  show gm_A "GumBubbleModel" (gm_nm "swap") _ _ _ _ _ _ _ _ _ 0 [(0, .ref a0)] [] _ _
  refine gm_bipush (v := -5) d_X12_swap_0 (by decide) ?_
  refine gm_istore_n (L' := [(1, .int (-5 : Int32)), (0, .ref a0)]) d_X12_swap_2 rfl (Nat.le_of_ble_eq_true rfl) rfl ?_
  refine gm_aload_n d_X12_swap_3 rfl 1 rfl ?_
  refine gm_grd (fun g4 => ?_)
  refine gm_callV (k0 := 12) [] (c_X12_allHold a0 μ) g4 rfl B_X12_allHold gw_1090 gs_46 rfl rfl rfl d_X12_swap_4 (gm_kI (fun x2 m1 => ?_))
  refine gm_istore_n (L' := [(2, .int x2), (1, .int (-5 : Int32)), (0, .ref a0)]) d_X12_swap_7 rfl (Nat.le_of_ble_eq_true rfl) rfl ?_
  refine gm_iconst (v := 0) d_X12_swap_8 (by decide) ?_
  refine gm_istore_n (L' := [(3, .int (0 : Int32)), (2, .int x2), (1, .int (-5 : Int32)), (0, .ref a0)]) d_X12_swap_9 rfl (Nat.le_of_ble_eq_true rfl) rfl ?_
  refine gm_sub (L' := [(0, .ref a0), (1, .int (-5 : Int32)), (2, .int x2), (3, .int (0 : Int32))]) [3, 2, 1, 0] rfl ?_
  refine gm_lp (S := Int32 × Int32 × Int32 × gm_M) (fun _ => 0) (fun _ => 0) (fun s3 => s3.2.2.2) (fun s3 => [(0, .ref a0), (1, .int s3.1), (2, .int s3.2.1), (3, .int s3.2.2.1)]) (fun _ => []) (fun s3 => ?_) 5000 ((-5 : Int32), x2, (0 : Int32), m1)
  refine gm_iload_n d_X12_swap_10 rfl 3 rfl ?_
  refine gm_aload_n d_X12_swap_11 rfl 0 rfl ?_
  refine gm_getR F_12_s gw_890 d_X12_swap_12 (fun v4 _ => ?_)
  refine gm_bipush (v := 26) d_X12_swap_15 (by decide) ?_
  refine gm_iald d_X12_swap_17 (fun v5 _ => ?_)
  refine gm_icmp_ge (tgt := 101) d_X12_swap_18 (by decide) (fun h18 => ?_) (fun h18 => ?_)
  ·
    refine gm_iload_n d_X12_swap_101 rfl 1 rfl ?_
    exact gm_iret rfl d_X12_swap_102 (Nat.le_of_ble_eq_true rfl) (Nat.le_of_ble_eq_true rfl) (fun h => h)
  ·
    refine gm_iload_n d_X12_swap_21 rfl 3 rfl ?_
    refine gm_iconst (v := 1) d_X12_swap_22 (by decide) ?_
    refine gm_iadd d_X12_swap_23 ?_
    refine gm_istore (L' := [(4, .int (s3.2.2.1 + (1 : Int32))), (0, .ref a0), (1, .int s3.1), (2, .int s3.2.1), (3, .int s3.2.2.1)]) d_X12_swap_24 (Nat.le_of_ble_eq_true rfl) rfl ?_
    refine gm_sub (L' := [(0, .ref a0), (1, .int s3.1), (2, .int s3.2.1), (3, .int s3.2.2.1), (4, .int (s3.2.2.1 + (1 : Int32)))]) [1, 2, 3, 4, 0] rfl ?_
    refine gm_lp (S := Int32 × Int32 × Int32 × gm_M) (fun _ => 0) (fun _ => 0) (fun s6 => s6.2.2.2) (fun s6 => [(0, .ref a0), (1, .int s6.1), (2, .int s6.2.1), (3, .int s3.2.2.1), (4, .int s6.2.2.1)]) (fun _ => []) (fun s6 => ?_) 5000 (s3.1, s3.2.1, (s3.2.2.1 + (1 : Int32)), s3.2.2.2)
    refine gm_iload d_X12_swap_26 4 rfl ?_
    refine gm_aload_n d_X12_swap_28 rfl 0 rfl ?_
    refine gm_getR F_12_s gw_890 d_X12_swap_29 (fun v7 _ => ?_)
    refine gm_bipush (v := 26) d_X12_swap_32 (by decide) ?_
    refine gm_iald d_X12_swap_34 (fun v8 _ => ?_)
    refine gm_icmp_ge (tgt := 95) d_X12_swap_35 (by decide) (fun h35 => ?_) (fun h35 => ?_)
    ·
      refine gm_iinc (v := s3.2.2.1 + (1 : Int32)) (L' := [(3, .int (s3.2.2.1 + (1 : Int32))), (0, .ref a0), (1, .int s6.1), (2, .int s6.2.1), (4, .int s6.2.2.1)]) d_X12_swap_95 3 rfl rfl (Nat.le_of_ble_eq_true rfl) rfl ?_
      refine gm_goto (tgt := 10) d_X12_swap_98 (by decide) ?_
      refine gm_sub (L' := [(0, .ref a0), (1, .int s6.1), (2, .int s6.2.1), (3, .int (s3.2.2.1 + (1 : Int32)))]) [1, 2, 3, 0] rfl ?_
      exact gm_back (fun h => h)
    ·
      refine gm_aload_n d_X12_swap_38 rfl 0 rfl ?_
      refine gm_iload_n d_X12_swap_39 rfl 3 rfl ?_
      refine gm_iload d_X12_swap_40 4 rfl ?_
      refine gm_grd (fun g42 => ?_)
      refine gm_callV (k0 := 12) [.int s3.2.2.1, .int s6.2.2.1] (c_X12_swaps a0 s3.2.2.1 s6.2.2.1 s6.2.2.2) g42 rfl B_X12_swaps gw_1198 gs_57 rfl rfl rfl d_X12_swap_42 (gm_kV (fun m9 => ?_))
      refine gm_aload_n d_X12_swap_45 rfl 0 rfl ?_
      refine gm_grd (fun g46 => ?_)
      refine gm_callV (k0 := 12) [] (c_X12_allHold a0 m9) g46 rfl B_X12_allHold gw_1090 gs_46 rfl rfl rfl d_X12_swap_46 (gm_kI (fun x12 m11 => ?_))
      refine gm_istore (L' := [(5, .int x12), (0, .ref a0), (1, .int s6.1), (2, .int s6.2.1), (3, .int s3.2.2.1), (4, .int s6.2.2.1)]) d_X12_swap_49 (Nat.le_of_ble_eq_true rfl) rfl ?_
      refine gm_aload_n d_X12_swap_51 rfl 1 rfl ?_
      refine gm_iload_n d_X12_swap_52 rfl 4 rfl ?_
      refine gm_iload d_X12_swap_53 5 rfl ?_
      refine gm_grd (fun g55 => ?_)
      refine gm_callV (k0 := 12) [.int s3.2.2.1, .int s6.2.2.1] (c_X12_swaps a0 s3.2.2.1 s6.2.2.1 m11) g55 rfl B_X12_swaps gw_1198 gs_57 rfl rfl rfl d_X12_swap_55 (gm_kV (fun m13 => ?_))
      refine gm_iload d_X12_swap_58 0 rfl ?_
      refine gm_iload_n d_X12_swap_60 rfl 3 rfl ?_
      refine gm_join (S := Int32) (pj := 75) (kj := 0) (nj := 0) (fun s15 => m13) (fun s15 => [(0, .ref a0), (1, .int s6.1), (2, .int s6.2.1), (3, .int s3.2.2.1), (4, .int s6.2.2.1), (5, .int x12)]) (fun s15 => [.int s15]) (fun s15 => ?_) (fun j16 hj16 => ?_)
      ·
        refine gm_istore_n (L' := [(1, .int s15), (0, .ref a0), (2, .int s6.2.1), (3, .int s3.2.2.1), (4, .int s6.2.2.1), (5, .int x12)]) d_X12_swap_75 rfl (Nat.le_of_ble_eq_true rfl) rfl ?_
        refine gm_iload d_X12_swap_76 5 rfl ?_
        refine gm_iload_n d_X12_swap_78 rfl 2 rfl ?_
        refine gm_join (S := Int32) (pj := 88) (kj := 0) (nj := 0) (fun s17 => m13) (fun s17 => [(0, .ref a0), (1, .int s15), (2, .int s6.2.1), (3, .int s3.2.2.1), (4, .int s6.2.2.1), (5, .int x12)]) (fun s17 => [.int s17]) (fun s17 => ?_) (fun j18 hj18 => ?_)
        ·
          refine gm_istore_n (L' := [(2, .int s17), (0, .ref a0), (1, .int s15), (3, .int s3.2.2.1), (4, .int s6.2.2.1), (5, .int x12)]) d_X12_swap_88 rfl (Nat.le_of_ble_eq_true rfl) rfl ?_
          refine gm_iinc (v := s6.2.2.1 + (1 : Int32)) (L' := [(4, .int (s6.2.2.1 + (1 : Int32))), (2, .int s17), (0, .ref a0), (1, .int s15), (3, .int s3.2.2.1), (5, .int x12)]) d_X12_swap_89 4 rfl rfl (Nat.le_of_ble_eq_true rfl) rfl ?_
          refine gm_goto (tgt := 26) d_X12_swap_92 (by decide) ?_
          refine gm_sub (L' := [(0, .ref a0), (1, .int s15), (2, .int s17), (3, .int s3.2.2.1), (4, .int (s6.2.2.1 + (1 : Int32)))]) [2, 3, 1, 4, 0] rfl ?_
          exact gm_back (fun h => h)
        ·
          refine gm_icmp_le (tgt := 87) d_X12_swap_79 (by decide) (fun h79 => ?_) (fun h79 => ?_)
          ·
            refine gm_iload_n d_X12_swap_87 rfl 2 rfl ?_
            refine gm_sub (L' := [(0, .ref a0), (1, .int s15), (2, .int s6.2.1), (3, .int s3.2.2.1), (4, .int s6.2.2.1), (5, .int x12)]) [1, 0, 2, 3, 4, 5] rfl ?_
            exact hj18 s6.2.1
          ·
            refine gm_iload d_X12_swap_82 5 rfl ?_
            refine gm_goto (tgt := 88) d_X12_swap_84 (by decide) ?_
            refine gm_sub (L' := [(0, .ref a0), (1, .int s15), (2, .int s6.2.1), (3, .int s3.2.2.1), (4, .int s6.2.2.1), (5, .int x12)]) [1, 0, 2, 3, 4, 5] rfl ?_
            exact hj18 x12
      ·
        refine gm_icmp_le (tgt := 74) d_X12_swap_61 (by decide) (fun h61 => ?_) (fun h61 => ?_)
        ·
          refine gm_iload_n d_X12_swap_74 rfl 2 rfl ?_
          refine gm_sub (L' := [(0, .ref a0), (1, .int s6.1), (2, .int s6.2.1), (3, .int s3.2.2.1), (4, .int s6.2.2.1), (5, .int x12)]) [1, 2, 3, 4, 5, 0] rfl ?_
          exact hj16 s6.1
        ·
          refine gm_bipush (v := 10) d_X12_swap_64 (by decide) ?_
          refine gm_iload_n d_X12_swap_66 rfl 4 rfl ?_
          refine gm_imul d_X12_swap_67 ?_
          refine gm_iload d_X12_swap_68 5 rfl ?_
          refine gm_iadd d_X12_swap_70 ?_
          refine gm_goto (tgt := 75) d_X12_swap_71 (by decide) ?_
          refine gm_sub (L' := [(0, .ref a0), (1, .int s6.1), (2, .int s6.2.1), (3, .int s3.2.2.1), (4, .int s6.2.2.1), (5, .int x12)]) [1, 2, 3, 4, 5, 0] rfl ?_
          exact hj16 (((10 : Int32) * s3.2.2.1) + s6.2.2.1)
theorem d_X12_told_0 : decode prog_14_method_36_code 0 = .ok (.iload_n 1, 1) := by decide +kernel
theorem d_X12_told_1 : decode prog_14_method_36_code 1 = .ok (.tableswitch 66 0 4 #[35, 42, 51, 56, 61], 35) := by decide +kernel
theorem d_X12_told_36 : decode prog_14_method_36_code 36 = .ok (.aload_n 0, 1) := by decide +kernel
theorem d_X12_told_37 : decode prog_14_method_36_code 37 = .ok (.getfield 9, 3) := by decide +kernel
theorem d_X12_told_40 : decode prog_14_method_36_code 40 = .ok (.iconst 0, 1) := by decide +kernel
theorem d_X12_told_41 : decode prog_14_method_36_code 41 = .ok (.iaload, 1) := by decide +kernel
theorem d_X12_told_42 : decode prog_14_method_36_code 42 = .ok (.ireturn, 1) := by decide +kernel
theorem d_X12_told_43 : decode prog_14_method_36_code 43 = .ok (.aload_n 0, 1) := by decide +kernel
theorem d_X12_told_44 : decode prog_14_method_36_code 44 = .ok (.sipush 210, 3) := by decide +kernel
theorem d_X12_told_47 : decode prog_14_method_36_code 47 = .ok (.iconst 0, 1) := by decide +kernel
theorem d_X12_told_48 : decode prog_14_method_36_code 48 = .ok (.invokevirtual 129, 3) := by decide +kernel
theorem d_X12_told_51 : decode prog_14_method_36_code 51 = .ok (.ireturn, 1) := by decide +kernel
theorem d_X12_told_52 : decode prog_14_method_36_code 52 = .ok (.aload_n 0, 1) := by decide +kernel
theorem d_X12_told_53 : decode prog_14_method_36_code 53 = .ok (.invokevirtual 151, 3) := by decide +kernel
theorem d_X12_told_56 : decode prog_14_method_36_code 56 = .ok (.ireturn, 1) := by decide +kernel
theorem d_X12_told_57 : decode prog_14_method_36_code 57 = .ok (.aload_n 0, 1) := by decide +kernel
theorem d_X12_told_58 : decode prog_14_method_36_code 58 = .ok (.invokevirtual 164, 3) := by decide +kernel
theorem d_X12_told_61 : decode prog_14_method_36_code 61 = .ok (.ireturn, 1) := by decide +kernel
theorem d_X12_told_62 : decode prog_14_method_36_code 62 = .ok (.aload_n 0, 1) := by decide +kernel
theorem d_X12_told_63 : decode prog_14_method_36_code 63 = .ok (.invokevirtual 167, 3) := by decide +kernel
theorem d_X12_told_66 : decode prog_14_method_36_code 66 = .ok (.ireturn, 1) := by decide +kernel
theorem d_X12_told_67 : decode prog_14_method_36_code 67 = .ok (.iconst (-1), 1) := by decide +kernel
theorem d_X12_told_68 : decode prog_14_method_36_code 68 = .ok (.ireturn, 1) := by decide +kernel
def f_X12_told (a0 : Nat) (a1 : Int32) (μ : gm_M) : Option (Option Value × gm_M) := if a1 = 0 then gm_gR μ [17] a0 1 (fun v1 => gm_aI μ v1 (0 : Int32) (fun v2 => some (some (.int v2), μ))) else if a1 = 1 then if gm_tag μ a0 = 17 then gm_bI (f_X12_tellsOf a0 (210 : Int32) (0 : Int32) μ) (fun x4 m3 => some (some (.int x4), m3)) else none else if a1 = 2 then if gm_tag μ a0 = 17 then gm_bI (f_X12_sweetNow a0 μ) (fun x6 m5 => some (some (.int x6), m5)) else none else if a1 = 3 then if gm_tag μ a0 = 17 then gm_bI (f_X12_allHold a0 μ) (fun x8 m7 => some (some (.int x8), m7)) else none else if a1 = 4 then if gm_tag μ a0 = 17 then gm_bI (f_X12_bubbles a0 μ) (fun x10 m9 => some (some (.int x10), m9)) else none else some (some (.int (-1 : Int32)), μ)
set_option maxHeartbeats 4000000 in
theorem c_X12_told (a0 : Nat) (a1 : Int32) (μ : gm_M) : gm_Call ({ cls := "GumBubbleModel", name := "told", desc := "(I)I" } : Jvm.MethodName) prog_14_method_36_code 2 (some .int) 5 0 0 [.ref a0, .int a1] μ (f_X12_told a0 a1 μ) := by
  refine gm_start PN_12 (Nat.le_of_ble_eq_true rfl) (fun res μe => ?_)
  unfold f_X12_told
  show gm_A "GumBubbleModel" (gm_nm "told") _ _ _ _ _ _ _ _ _ 0 [(0, .ref a0), (1, .int a1)] [] _ _
  refine gm_iload_n d_X12_told_0 rfl 1 rfl ?_
  refine gm_ite (P := a1 = 0) (fun h1_0 => ?_) (fun h1_0 => ?_)
  ·
    refine gm_swIn (v := 0) (off := 35) (tgt := 36) d_X12_told_1 (by rw [h1_0] <;> rfl) (by decide) (by decide) (by decide) (by decide) ?_
    refine gm_aload_n d_X12_told_36 rfl 0 rfl ?_
    refine gm_getR F_12_s gw_890 d_X12_told_37 (fun v1 _ => ?_)
    refine gm_iconst (v := 0) d_X12_told_40 (by decide) ?_
    refine gm_iald d_X12_told_41 (fun v2 _ => ?_)
    exact gm_iret rfl d_X12_told_42 (Nat.le_of_ble_eq_true rfl) (Nat.le_of_ble_eq_true rfl) (fun h => h)
  ·
    refine gm_ite (P := a1 = 1) (fun h1_1 => ?_) (fun h1_1 => ?_)
    ·
      refine gm_swIn (v := 1) (off := 42) (tgt := 43) d_X12_told_1 (by rw [h1_1] <;> rfl) (by decide) (by decide) (by decide) (by decide) ?_
      refine gm_aload_n d_X12_told_43 rfl 0 rfl ?_
      refine gm_sipush (v := 210) d_X12_told_44 (by decide) ?_
      refine gm_iconst (v := 0) d_X12_told_47 (by decide) ?_
      refine gm_grd (fun g48 => ?_)
      refine gm_callV (k0 := 12) [.int (210 : Int32), .int (0 : Int32)] (c_X12_tellsOf a0 (210 : Int32) (0 : Int32) μ) g48 rfl B_X12_tellsOf gw_1039 gs_39 rfl rfl rfl d_X12_told_48 (gm_kI (fun x4 m3 => ?_))
      exact gm_iret rfl d_X12_told_51 (Nat.le_of_ble_eq_true rfl) (Nat.le_of_ble_eq_true rfl) (fun h => h)
    ·
      refine gm_ite (P := a1 = 2) (fun h1_2 => ?_) (fun h1_2 => ?_)
      ·
        refine gm_swIn (v := 2) (off := 51) (tgt := 52) d_X12_told_1 (by rw [h1_2] <;> rfl) (by decide) (by decide) (by decide) (by decide) ?_
        refine gm_aload_n d_X12_told_52 rfl 0 rfl ?_
        refine gm_grd (fun g53 => ?_)
        refine gm_callV (k0 := 12) [] (c_X12_sweetNow a0 μ) g53 rfl B_X12_sweetNow gw_1035 gs_38 rfl rfl rfl d_X12_told_53 (gm_kI (fun x6 m5 => ?_))
        exact gm_iret rfl d_X12_told_56 (Nat.le_of_ble_eq_true rfl) (Nat.le_of_ble_eq_true rfl) (fun h => h)
      ·
        refine gm_ite (P := a1 = 3) (fun h1_3 => ?_) (fun h1_3 => ?_)
        ·
          refine gm_swIn (v := 3) (off := 56) (tgt := 57) d_X12_told_1 (by rw [h1_3] <;> rfl) (by decide) (by decide) (by decide) (by decide) ?_
          refine gm_aload_n d_X12_told_57 rfl 0 rfl ?_
          refine gm_grd (fun g58 => ?_)
          refine gm_callV (k0 := 12) [] (c_X12_allHold a0 μ) g58 rfl B_X12_allHold gw_1090 gs_46 rfl rfl rfl d_X12_told_58 (gm_kI (fun x8 m7 => ?_))
          exact gm_iret rfl d_X12_told_61 (Nat.le_of_ble_eq_true rfl) (Nat.le_of_ble_eq_true rfl) (fun h => h)
        ·
          refine gm_ite (P := a1 = 4) (fun h1_4 => ?_) (fun h1_4 => ?_)
          ·
            refine gm_swIn (v := 4) (off := 61) (tgt := 62) d_X12_told_1 (by rw [h1_4] <;> rfl) (by decide) (by decide) (by decide) (by decide) ?_
            refine gm_aload_n d_X12_told_62 rfl 0 rfl ?_
            refine gm_grd (fun g63 => ?_)
            refine gm_callV (k0 := 12) [] (c_X12_bubbles a0 μ) g63 rfl B_X12_bubbles gw_1094 gs_47 rfl rfl rfl d_X12_told_63 (gm_kI (fun x10 m9 => ?_))
            exact gm_iret rfl d_X12_told_66 (Nat.le_of_ble_eq_true rfl) (Nat.le_of_ble_eq_true rfl) (fun h => h)
          ·
            refine gm_swOut (tgt := 67) d_X12_told_1 (by have g0 := lv_neT h1_0 (show (0 : Int32).toInt = 0 from rfl); have g1 := lv_neT h1_1 (show (1 : Int32).toInt = 1 from rfl); have g2 := lv_neT h1_2 (show (2 : Int32).toInt = 2 from rfl); have g3 := lv_neT h1_3 (show (3 : Int32).toInt = 3 from rfl); have g4 := lv_neT h1_4 (show (4 : Int32).toInt = 4 from rfl); omega) (by decide) ?_
            refine gm_iconst (v := -1) d_X12_told_67 (by decide) ?_
            exact gm_iret rfl d_X12_told_68 (Nat.le_of_ble_eq_true rfl) (Nat.le_of_ble_eq_true rfl) (fun h => h)
theorem d_X12_trace_0 : decode prog_14_method_88_code 0 = .ok (.iload_n 1, 1) := by decide +kernel
theorem d_X12_trace_1 : decode prog_14_method_88_code 1 = .ok (.iconst 0, 1) := by decide +kernel
theorem d_X12_trace_2 : decode prog_14_method_88_code 2 = .ok (.aload_n 0, 1) := by decide +kernel
theorem d_X12_trace_3 : decode prog_14_method_88_code 3 = .ok (.getfield 247, 3) := by decide +kernel
theorem d_X12_trace_6 : decode prog_14_method_88_code 6 = .ok (.bipush 20, 2) := by decide +kernel
theorem d_X12_trace_8 : decode prog_14_method_88_code 8 = .ok (.if_icmp .ge 10, 3) := by decide +kernel
theorem d_X12_trace_11 : decode prog_14_method_88_code 11 = .ok (.aload_n 0, 1) := by decide +kernel
theorem d_X12_trace_12 : decode prog_14_method_88_code 12 = .ok (.getfield 247, 3) := by decide +kernel
theorem d_X12_trace_15 : decode prog_14_method_88_code 15 = .ok (.goto 5, 3) := by decide +kernel
theorem d_X12_trace_18 : decode prog_14_method_88_code 18 = .ok (.bipush 20, 2) := by decide +kernel
theorem d_X12_trace_20 : decode prog_14_method_88_code 20 = .ok (.iconst 1, 1) := by decide +kernel
theorem d_X12_trace_21 : decode prog_14_method_88_code 21 = .ok (.isub, 1) := by decide +kernel
theorem d_X12_trace_22 : decode prog_14_method_88_code 22 = .ok (.invokestatic 44, 3) := by decide +kernel
theorem d_X12_trace_25 : decode prog_14_method_88_code 25 = .ok (.ifCond .eq 12, 3) := by decide +kernel
theorem d_X12_trace_28 : decode prog_14_method_88_code 28 = .ok (.aload_n 0, 1) := by decide +kernel
theorem d_X12_trace_29 : decode prog_14_method_88_code 29 = .ok (.getfield 37, 3) := by decide +kernel
theorem d_X12_trace_32 : decode prog_14_method_88_code 32 = .ok (.iload_n 1, 1) := by decide +kernel
theorem d_X12_trace_33 : decode prog_14_method_88_code 33 = .ok (.iaload, 1) := by decide +kernel
theorem d_X12_trace_34 : decode prog_14_method_88_code 34 = .ok (.goto 4, 3) := by decide +kernel
theorem d_X12_trace_37 : decode prog_14_method_88_code 37 = .ok (.iconst (-1), 1) := by decide +kernel
theorem d_X12_trace_38 : decode prog_14_method_88_code 38 = .ok (.ireturn, 1) := by decide +kernel
def f_X12_trace (a0 : Nat) (a1 : Int32) (μ : gm_M) : Option (Option Value × gm_M) := gm_gI μ [17] a0 19 (fun v1 => gm_j (fun (s2 : Int32) => gm_bI (f_X12_in a1 (0 : Int32) (s2 - (1 : Int32)) μ) (fun x5 m4 => if x5 = 0 then some (some (.int (-1 : Int32)), m4) else gm_gR m4 [17] a0 18 (fun v6 => gm_aI m4 v6 a1 (fun v7 => some (some (.int v7), m4))))) (fun j3 => if (20 : Int32) ≤ v1 then j3 (20 : Int32) else gm_gI μ [17] a0 19 (fun v8 => j3 v8)))
set_option maxHeartbeats 4000000 in
theorem c_X12_trace (a0 : Nat) (a1 : Int32) (μ : gm_M) : gm_Call ({ cls := "GumBubbleModel", name := "trace", desc := "(I)I" } : Jvm.MethodName) prog_14_method_88_code 2 (some .int) 1 0 0 [.ref a0, .int a1] μ (f_X12_trace a0 a1 μ) := by
  refine gm_start PN_12 (Nat.le_of_ble_eq_true rfl) (fun res μe => ?_)
  unfold f_X12_trace
  show gm_A "GumBubbleModel" (gm_nm "trace") _ _ _ _ _ _ _ _ _ 0 [(0, .ref a0), (1, .int a1)] [] _ _
  refine gm_iload_n d_X12_trace_0 rfl 1 rfl ?_
  refine gm_iconst (v := 0) d_X12_trace_1 (by decide) ?_
  refine gm_aload_n d_X12_trace_2 rfl 0 rfl ?_
  refine gm_getI F_12_ran gw_908 d_X12_trace_3 (fun v1 _ => ?_)
  refine gm_bipush (v := 20) d_X12_trace_6 (by decide) ?_
  refine gm_join (S := Int32) (pj := 20) (kj := 0) (nj := 0) (fun s2 => μ) (fun s2 => [(0, .ref a0), (1, .int a1)]) (fun s2 => [.int s2, .int (0 : Int32), .int a1]) (fun s2 => ?_) (fun j3 hj3 => ?_)
  ·
    refine gm_iconst (v := 1) d_X12_trace_20 (by decide) ?_
    refine gm_isub d_X12_trace_21 ?_
    refine gm_callS [.int a1, .int (0 : Int32), .int (s2 - (1 : Int32))] (c_X12_in a1 (0 : Int32) (s2 - (1 : Int32)) μ) B_X12_in gw_964 rfl rfl rfl d_X12_trace_22 (gm_kI (fun x5 m4 => ?_))
    refine gm_if_eq (tgt := 37) d_X12_trace_25 (by decide) (fun h25 => ?_) (fun h25 => ?_)
    ·
      refine gm_iconst (v := -1) d_X12_trace_37 (by decide) ?_
      exact gm_iret rfl d_X12_trace_38 (Nat.le_of_ble_eq_true rfl) (Nat.le_of_ble_eq_true rfl) (fun h => h)
    ·
      refine gm_aload_n d_X12_trace_28 rfl 0 rfl ?_
      refine gm_getR F_12_bodies gw_907 d_X12_trace_29 (fun v6 _ => ?_)
      refine gm_iload_n d_X12_trace_32 rfl 1 rfl ?_
      refine gm_iald d_X12_trace_33 (fun v7 _ => ?_)
      refine gm_goto (tgt := 38) d_X12_trace_34 (by decide) ?_
      exact gm_iret rfl d_X12_trace_38 (Nat.le_of_ble_eq_true rfl) (Nat.le_of_ble_eq_true rfl) (fun h => h)
  ·
    refine gm_icmp_ge (tgt := 18) d_X12_trace_8 (by decide) (fun h8 => ?_) (fun h8 => ?_)
    ·
      refine gm_bipush (v := 20) d_X12_trace_18 (by decide) ?_
      exact hj3 (20 : Int32)
    ·
      refine gm_aload_n d_X12_trace_11 rfl 0 rfl ?_
      refine gm_getI F_12_ran gw_908 d_X12_trace_12 (fun v8 _ => ?_)
      refine gm_goto (tgt := 20) d_X12_trace_15 (by decide) ?_
      exact hj3 v8
theorem d_X12_undo_0 : decode prog_14_method_91_code 0 = .ok (.aload_n 0, 1) := by decide +kernel
theorem d_X12_undo_1 : decode prog_14_method_91_code 1 = .ok (.getfield 283, 3) := by decide +kernel
theorem d_X12_undo_4 : decode prog_14_method_91_code 4 = .ok (.ifCond .ne 6, 3) := by decide +kernel
theorem d_X12_undo_7 : decode prog_14_method_91_code 7 = .ok (.bipush (-3), 2) := by decide +kernel
theorem d_X12_undo_9 : decode prog_14_method_91_code 9 = .ok (.ireturn, 1) := by decide +kernel
theorem d_X12_undo_10 : decode prog_14_method_91_code 10 = .ok (.iconst 0, 1) := by decide +kernel
theorem d_X12_undo_11 : decode prog_14_method_91_code 11 = .ok (.istore_n 1, 1) := by decide +kernel
theorem d_X12_undo_12 : decode prog_14_method_91_code 12 = .ok (.iload_n 1, 1) := by decide +kernel
theorem d_X12_undo_13 : decode prog_14_method_91_code 13 = .ok (.sipush 925, 3) := by decide +kernel
theorem d_X12_undo_16 : decode prog_14_method_91_code 16 = .ok (.if_icmp .ge 21, 3) := by decide +kernel
theorem d_X12_undo_19 : decode prog_14_method_91_code 19 = .ok (.aload_n 0, 1) := by decide +kernel
theorem d_X12_undo_20 : decode prog_14_method_91_code 20 = .ok (.getfield 9, 3) := by decide +kernel
theorem d_X12_undo_23 : decode prog_14_method_91_code 23 = .ok (.iload_n 1, 1) := by decide +kernel
theorem d_X12_undo_24 : decode prog_14_method_91_code 24 = .ok (.aload_n 0, 1) := by decide +kernel
theorem d_X12_undo_25 : decode prog_14_method_91_code 25 = .ok (.getfield 15, 3) := by decide +kernel
theorem d_X12_undo_28 : decode prog_14_method_91_code 28 = .ok (.iload_n 1, 1) := by decide +kernel
theorem d_X12_undo_29 : decode prog_14_method_91_code 29 = .ok (.iaload, 1) := by decide +kernel
theorem d_X12_undo_30 : decode prog_14_method_91_code 30 = .ok (.iastore, 1) := by decide +kernel
theorem d_X12_undo_31 : decode prog_14_method_91_code 31 = .ok (.iinc 1 1, 3) := by decide +kernel
theorem d_X12_undo_34 : decode prog_14_method_91_code 34 = .ok (.goto (-22), 3) := by decide +kernel
theorem d_X12_undo_37 : decode prog_14_method_91_code 37 = .ok (.aload_n 0, 1) := by decide +kernel
theorem d_X12_undo_38 : decode prog_14_method_91_code 38 = .ok (.getfield 9, 3) := by decide +kernel
theorem d_X12_undo_41 : decode prog_14_method_91_code 41 = .ok (.bipush 26, 2) := by decide +kernel
theorem d_X12_undo_43 : decode prog_14_method_91_code 43 = .ok (.iaload, 1) := by decide +kernel
theorem d_X12_undo_44 : decode prog_14_method_91_code 44 = .ok (.ireturn, 1) := by decide +kernel
def f_X12_undo (a0 : Nat) (μ : gm_M) : Option (Option Value × gm_M) := gm_gI μ [17] a0 4 (fun v1 => if v1 ≠ 0 then gm_loop (fun (s2 : Int32 × gm_M) => if (925 : Int32) ≤ s2.1 then gm_gR s2.2 [17] a0 1 (fun v3 => gm_aI s2.2 v3 (26 : Int32) (fun v4 => some (Sum.inr (some (.int v4), s2.2)))) else gm_gR s2.2 [17] a0 1 (fun v5 => gm_gR s2.2 [17] a0 2 (fun v6 => gm_aI s2.2 v6 s2.1 (fun v7 => gm_sI s2.2 v5 s2.1 v7 (fun m8 => some (Sum.inl ((s2.1 + (1 : Int32)), m8))))))) 5000 ((0 : Int32), μ) else some (some (.int (-3 : Int32)), μ))
set_option maxHeartbeats 4000000 in
theorem c_X12_undo (a0 : Nat) (μ : gm_M) : gm_Call ({ cls := "GumBubbleModel", name := "undo", desc := "()I" } : Jvm.MethodName) prog_14_method_91_code 2 (some .int) 0 0 0 [.ref a0] μ (f_X12_undo a0 μ) := by
  refine gm_start PN_12 (Nat.le_of_ble_eq_true rfl) (fun res μe => ?_)
  unfold f_X12_undo
  show gm_A "GumBubbleModel" (gm_nm "undo") _ _ _ _ _ _ _ _ _ 0 [(0, .ref a0)] [] _ _
  refine gm_aload_n d_X12_undo_0 rfl 0 rfl ?_
  refine gm_getI F_12_hasImage gw_893 d_X12_undo_1 (fun v1 _ => ?_)
  refine gm_if_ne (tgt := 10) d_X12_undo_4 (by decide) (fun h4 => ?_) (fun h4 => ?_)
  ·
    refine gm_iconst (v := 0) d_X12_undo_10 (by decide) ?_
    refine gm_istore_n (L' := [(1, .int (0 : Int32)), (0, .ref a0)]) d_X12_undo_11 rfl (Nat.le_of_ble_eq_true rfl) rfl ?_
    refine gm_sub (L' := [(0, .ref a0), (1, .int (0 : Int32))]) [1, 0] rfl ?_
    refine gm_lp (S := Int32 × gm_M) (fun _ => 0) (fun _ => 0) (fun s2 => s2.2) (fun s2 => [(0, .ref a0), (1, .int s2.1)]) (fun _ => []) (fun s2 => ?_) 5000 ((0 : Int32), μ)
    refine gm_iload_n d_X12_undo_12 rfl 1 rfl ?_
    refine gm_sipush (v := 925) d_X12_undo_13 (by decide) ?_
    refine gm_icmp_ge (tgt := 37) d_X12_undo_16 (by decide) (fun h16 => ?_) (fun h16 => ?_)
    ·
      refine gm_aload_n d_X12_undo_37 rfl 0 rfl ?_
      refine gm_getR F_12_s gw_890 d_X12_undo_38 (fun v3 _ => ?_)
      refine gm_bipush (v := 26) d_X12_undo_41 (by decide) ?_
      refine gm_iald d_X12_undo_43 (fun v4 _ => ?_)
      exact gm_iret rfl d_X12_undo_44 (Nat.le_of_ble_eq_true rfl) (Nat.le_of_ble_eq_true rfl) (fun h => h)
    ·
      refine gm_aload_n d_X12_undo_19 rfl 0 rfl ?_
      refine gm_getR F_12_s gw_890 d_X12_undo_20 (fun v5 _ => ?_)
      refine gm_iload_n d_X12_undo_23 rfl 1 rfl ?_
      refine gm_aload_n d_X12_undo_24 rfl 0 rfl ?_
      refine gm_getR F_12_image gw_891 d_X12_undo_25 (fun v6 _ => ?_)
      refine gm_iload_n d_X12_undo_28 rfl 1 rfl ?_
      refine gm_iald d_X12_undo_29 (fun v7 _ => ?_)
      refine gm_iast d_X12_undo_30 (fun m8 _ => ?_)
      refine gm_iinc (v := s2.1 + (1 : Int32)) (L' := [(1, .int (s2.1 + (1 : Int32))), (0, .ref a0)]) d_X12_undo_31 1 rfl rfl (Nat.le_of_ble_eq_true rfl) rfl ?_
      refine gm_goto (tgt := 12) d_X12_undo_34 (by decide) ?_
      refine gm_sub (L' := [(0, .ref a0), (1, .int (s2.1 + (1 : Int32)))]) [1, 0] rfl ?_
      exact gm_back (fun h => h)
  ·
    refine gm_bipush (v := -3) d_X12_undo_7 (by decide) ?_
    exact gm_iret rfl d_X12_undo_9 (Nat.le_of_ble_eq_true rfl) (Nat.le_of_ble_eq_true rfl) (fun h => h)
theorem d_X12_when_0 : decode prog_14_method_47_code 0 = .ok (.aload_n 0, 1) := by decide +kernel
theorem d_X12_when_1 : decode prog_14_method_47_code 1 = .ok (.iload_n 1, 1) := by decide +kernel
theorem d_X12_when_2 : decode prog_14_method_47_code 2 = .ok (.invokevirtual 154, 3) := by decide +kernel
theorem d_X12_when_5 : decode prog_14_method_47_code 5 = .ok (.ifCond .eq 12, 3) := by decide +kernel
theorem d_X12_when_8 : decode prog_14_method_47_code 8 = .ok (.iload_n 2, 1) := by decide +kernel
theorem d_X12_when_9 : decode prog_14_method_47_code 9 = .ok (.iconst 0, 1) := by decide +kernel
theorem d_X12_when_10 : decode prog_14_method_47_code 10 = .ok (.iconst 1, 1) := by decide +kernel
theorem d_X12_when_11 : decode prog_14_method_47_code 11 = .ok (.invokestatic 44, 3) := by decide +kernel
theorem d_X12_when_14 : decode prog_14_method_47_code 14 = .ok (.ifCond .ne 5, 3) := by decide +kernel
theorem d_X12_when_17 : decode prog_14_method_47_code 17 = .ok (.iconst (-1), 1) := by decide +kernel
theorem d_X12_when_18 : decode prog_14_method_47_code 18 = .ok (.ireturn, 1) := by decide +kernel
theorem d_X12_when_19 : decode prog_14_method_47_code 19 = .ok (.aload_n 0, 1) := by decide +kernel
theorem d_X12_when_20 : decode prog_14_method_47_code 20 = .ok (.invokevirtual 183, 3) := by decide +kernel
theorem d_X12_when_23 : decode prog_14_method_47_code 23 = .ok (.aload_n 0, 1) := by decide +kernel
theorem d_X12_when_24 : decode prog_14_method_47_code 24 = .ok (.iload_n 1, 1) := by decide +kernel
theorem d_X12_when_25 : decode prog_14_method_47_code 25 = .ok (.invokevirtual 198, 3) := by decide +kernel
theorem d_X12_when_28 : decode prog_14_method_47_code 28 = .ok (.iload_n 2, 1) := by decide +kernel
theorem d_X12_when_29 : decode prog_14_method_47_code 29 = .ok (.ifCond .ne 10, 3) := by decide +kernel
theorem d_X12_when_32 : decode prog_14_method_47_code 32 = .ok (.aload_n 0, 1) := by decide +kernel
theorem d_X12_when_33 : decode prog_14_method_47_code 33 = .ok (.getfield 189, 3) := by decide +kernel
theorem d_X12_when_36 : decode prog_14_method_47_code 36 = .ok (.goto 7, 3) := by decide +kernel
theorem d_X12_when_39 : decode prog_14_method_47_code 39 = .ok (.aload_n 0, 1) := by decide +kernel
theorem d_X12_when_40 : decode prog_14_method_47_code 40 = .ok (.getfield 192, 3) := by decide +kernel
theorem d_X12_when_43 : decode prog_14_method_47_code 43 = .ok (.ireturn, 1) := by decide +kernel
def f_X12_when (a0 : Nat) (a1 : Int32) (a2 : Int32) (μ : gm_M) : Option (Option Value × gm_M) := if gm_tag μ a0 = 17 then gm_bI (f_X12_isChild a0 a1 μ) (fun x2 m1 => if x2 = 0 then some (some (.int (-1 : Int32)), m1) else gm_bI (f_X12_in a2 (0 : Int32) (1 : Int32) m1) (fun x4 m3 => if x4 ≠ 0 then if gm_tag m3 a0 = 17 then gm_bV (f_X12_keeps a0 m3) (fun m5 => if gm_tag m5 a0 = 17 then gm_bV (f_X12_looksForWhen a0 a1 m5) (fun m7 => if a2 ≠ 0 then gm_gI m7 [17] a0 13 (fun v9 => some (some (.int v9), m7)) else gm_gI m7 [17] a0 12 (fun v10 => some (some (.int v10), m7))) else none) else none else some (some (.int (-1 : Int32)), m3))) else none
set_option maxHeartbeats 4000000 in
theorem c_X12_when (a0 : Nat) (a1 : Int32) (a2 : Int32) (μ : gm_M) : gm_Call ({ cls := "GumBubbleModel", name := "when", desc := "(II)I" } : Jvm.MethodName) prog_14_method_47_code 3 (some .int) 5 0 0 [.ref a0, .int a1, .int a2] μ (f_X12_when a0 a1 a2 μ) := by
  refine gm_start PN_12 (Nat.le_of_ble_eq_true rfl) (fun res μe => ?_)
  unfold f_X12_when
  show gm_A "GumBubbleModel" (gm_nm "when") _ _ _ _ _ _ _ _ _ 0 [(0, .ref a0), (1, .int a1), (2, .int a2)] [] _ _
  refine gm_aload_n d_X12_when_0 rfl 0 rfl ?_
  refine gm_iload_n d_X12_when_1 rfl 1 rfl ?_
  refine gm_grd (fun g2 => ?_)
  refine gm_callV (k0 := 12) [.int a1] (c_X12_isChild a0 a1 μ) g2 rfl B_X12_isChild gw_1047 gs_40 rfl rfl rfl d_X12_when_2 (gm_kI (fun x2 m1 => ?_))
  refine gm_if_eq (tgt := 17) d_X12_when_5 (by decide) (fun h5 => ?_) (fun h5 => ?_)
  ·
    refine gm_iconst (v := -1) d_X12_when_17 (by decide) ?_
    exact gm_iret rfl d_X12_when_18 (Nat.le_of_ble_eq_true rfl) (Nat.le_of_ble_eq_true rfl) (fun h => h)
  ·
    refine gm_iload_n d_X12_when_8 rfl 2 rfl ?_
    refine gm_iconst (v := 0) d_X12_when_9 (by decide) ?_
    refine gm_iconst (v := 1) d_X12_when_10 (by decide) ?_
    refine gm_callS [.int a2, .int (0 : Int32), .int (1 : Int32)] (c_X12_in a2 (0 : Int32) (1 : Int32) m1) B_X12_in gw_964 rfl rfl rfl d_X12_when_11 (gm_kI (fun x4 m3 => ?_))
    refine gm_if_ne (tgt := 19) d_X12_when_14 (by decide) (fun h14 => ?_) (fun h14 => ?_)
    ·
      refine gm_aload_n d_X12_when_19 rfl 0 rfl ?_
      refine gm_grd (fun g20 => ?_)
      refine gm_callV (k0 := 12) [] (c_X12_keeps a0 m3) g20 rfl B_X12_keeps gw_1126 gs_52 rfl rfl rfl d_X12_when_20 (gm_kV (fun m5 => ?_))
      refine gm_aload_n d_X12_when_23 rfl 0 rfl ?_
      refine gm_iload_n d_X12_when_24 rfl 1 rfl ?_
      refine gm_grd (fun g25 => ?_)
      refine gm_callV (k0 := 12) [.int a1] (c_X12_looksForWhen a0 a1 m5) g25 rfl B_X12_looksForWhen gw_1138 gs_54 rfl rfl rfl d_X12_when_25 (gm_kV (fun m7 => ?_))
      refine gm_iload_n d_X12_when_28 rfl 2 rfl ?_
      refine gm_if_ne (tgt := 39) d_X12_when_29 (by decide) (fun h29 => ?_) (fun h29 => ?_)
      ·
        refine gm_aload_n d_X12_when_39 rfl 0 rfl ?_
        refine gm_getI F_12_mostHeld gw_902 d_X12_when_40 (fun v9 _ => ?_)
        exact gm_iret rfl d_X12_when_43 (Nat.le_of_ble_eq_true rfl) (Nat.le_of_ble_eq_true rfl) (fun h => h)
      ·
        refine gm_aload_n d_X12_when_32 rfl 0 rfl ?_
        refine gm_getI F_12_bestWhen gw_901 d_X12_when_33 (fun v10 _ => ?_)
        refine gm_goto (tgt := 43) d_X12_when_36 (by decide) ?_
        exact gm_iret rfl d_X12_when_43 (Nat.le_of_ble_eq_true rfl) (Nat.le_of_ble_eq_true rfl) (fun h => h)
    ·
      refine gm_iconst (v := -1) d_X12_when_17 (by decide) ?_
      exact gm_iret rfl d_X12_when_18 (Nat.le_of_ble_eq_true rfl) (Nat.le_of_ble_eq_true rfl) (fun h => h)
theorem d_X12_who_0 : decode prog_14_method_69_code 0 = .ok (.iload_n 1, 1) := by decide +kernel
theorem d_X12_who_1 : decode prog_14_method_69_code 1 = .ok (.iconst 0, 1) := by decide +kernel
theorem d_X12_who_2 : decode prog_14_method_69_code 2 = .ok (.sipush 999, 3) := by decide +kernel
theorem d_X12_who_5 : decode prog_14_method_69_code 5 = .ok (.invokestatic 44, 3) := by decide +kernel
theorem d_X12_who_8 : decode prog_14_method_69_code 8 = .ok (.ifCond .eq 13, 3) := by decide +kernel
theorem d_X12_who_11 : decode prog_14_method_69_code 11 = .ok (.iload_n 2, 1) := by decide +kernel
theorem d_X12_who_12 : decode prog_14_method_69_code 12 = .ok (.iconst 0, 1) := by decide +kernel
theorem d_X12_who_13 : decode prog_14_method_69_code 13 = .ok (.bipush 40, 2) := by decide +kernel
theorem d_X12_who_15 : decode prog_14_method_69_code 15 = .ok (.invokestatic 44, 3) := by decide +kernel
theorem d_X12_who_18 : decode prog_14_method_69_code 18 = .ok (.ifCond .ne 6, 3) := by decide +kernel
theorem d_X12_who_21 : decode prog_14_method_69_code 21 = .ok (.bipush (-2), 2) := by decide +kernel
theorem d_X12_who_23 : decode prog_14_method_69_code 23 = .ok (.ireturn, 1) := by decide +kernel
theorem d_X12_who_24 : decode prog_14_method_69_code 24 = .ok (.aload_n 0, 1) := by decide +kernel
theorem d_X12_who_25 : decode prog_14_method_69_code 25 = .ok (.invokevirtual 183, 3) := by decide +kernel
theorem d_X12_who_28 : decode prog_14_method_69_code 28 = .ok (.aload_n 0, 1) := by decide +kernel
theorem d_X12_who_29 : decode prog_14_method_69_code 29 = .ok (.iload_n 2, 1) := by decide +kernel
theorem d_X12_who_30 : decode prog_14_method_69_code 30 = .ok (.invokevirtual 180, 3) := by decide +kernel
theorem d_X12_who_33 : decode prog_14_method_69_code 33 = .ok (.iconst 0, 1) := by decide +kernel
theorem d_X12_who_34 : decode prog_14_method_69_code 34 = .ok (.istore_n 3, 1) := by decide +kernel
theorem d_X12_who_35 : decode prog_14_method_69_code 35 = .ok (.iconst 0, 1) := by decide +kernel
theorem d_X12_who_36 : decode prog_14_method_69_code 36 = .ok (.istore 4, 2) := by decide +kernel
theorem d_X12_who_38 : decode prog_14_method_69_code 38 = .ok (.iload 4, 2) := by decide +kernel
theorem d_X12_who_40 : decode prog_14_method_69_code 40 = .ok (.aload_n 0, 1) := by decide +kernel
theorem d_X12_who_41 : decode prog_14_method_69_code 41 = .ok (.getfield 9, 3) := by decide +kernel
theorem d_X12_who_44 : decode prog_14_method_69_code 44 = .ok (.bipush 26, 2) := by decide +kernel
theorem d_X12_who_46 : decode prog_14_method_69_code 46 = .ok (.iaload, 1) := by decide +kernel
theorem d_X12_who_47 : decode prog_14_method_69_code 47 = .ok (.if_icmp .ge 30, 3) := by decide +kernel
theorem d_X12_who_50 : decode prog_14_method_69_code 50 = .ok (.iload_n 3, 1) := by decide +kernel
theorem d_X12_who_51 : decode prog_14_method_69_code 51 = .ok (.aload_n 0, 1) := by decide +kernel
theorem d_X12_who_52 : decode prog_14_method_69_code 52 = .ok (.iload 4, 2) := by decide +kernel
theorem d_X12_who_54 : decode prog_14_method_69_code 54 = .ok (.invokevirtual 148, 3) := by decide +kernel
theorem d_X12_who_57 : decode prog_14_method_69_code 57 = .ok (.iload_n 1, 1) := by decide +kernel
theorem d_X12_who_58 : decode prog_14_method_69_code 58 = .ok (.if_icmp .ne 10, 3) := by decide +kernel
theorem d_X12_who_61 : decode prog_14_method_69_code 61 = .ok (.iconst 1, 1) := by decide +kernel
theorem d_X12_who_62 : decode prog_14_method_69_code 62 = .ok (.iload 4, 2) := by decide +kernel
theorem d_X12_who_64 : decode prog_14_method_69_code 64 = .ok (.ishl, 1) := by decide +kernel
theorem d_X12_who_65 : decode prog_14_method_69_code 65 = .ok (.goto 4, 3) := by decide +kernel
theorem d_X12_who_68 : decode prog_14_method_69_code 68 = .ok (.iconst 0, 1) := by decide +kernel
theorem d_X12_who_69 : decode prog_14_method_69_code 69 = .ok (.ior, 1) := by decide +kernel
theorem d_X12_who_70 : decode prog_14_method_69_code 70 = .ok (.istore_n 3, 1) := by decide +kernel
theorem d_X12_who_71 : decode prog_14_method_69_code 71 = .ok (.iinc 4 1, 3) := by decide +kernel
theorem d_X12_who_74 : decode prog_14_method_69_code 74 = .ok (.goto (-36), 3) := by decide +kernel
theorem d_X12_who_77 : decode prog_14_method_69_code 77 = .ok (.aload_n 0, 1) := by decide +kernel
theorem d_X12_who_78 : decode prog_14_method_69_code 78 = .ok (.invokevirtual 186, 3) := by decide +kernel
theorem d_X12_who_81 : decode prog_14_method_69_code 81 = .ok (.iload_n 3, 1) := by decide +kernel
theorem d_X12_who_82 : decode prog_14_method_69_code 82 = .ok (.ireturn, 1) := by decide +kernel
def f_X12_who (a0 : Nat) (a1 : Int32) (a2 : Int32) (μ : gm_M) : Option (Option Value × gm_M) := gm_bI (f_X12_in a1 (0 : Int32) (999 : Int32) μ) (fun x2 m1 => if x2 = 0 then some (some (.int (-2 : Int32)), m1) else gm_bI (f_X12_in a2 (0 : Int32) (40 : Int32) m1) (fun x4 m3 => if x4 ≠ 0 then if gm_tag m3 a0 = 17 then gm_bV (f_X12_keeps a0 m3) (fun m5 => if gm_tag m5 a0 = 17 then gm_bV (f_X12_goesOn a0 a2 m5) (fun m7 => gm_loop (fun (s9 : Int32 × Int32 × gm_M) => gm_gR s9.2.2 [17] a0 1 (fun v10 => gm_aI s9.2.2 v10 (26 : Int32) (fun v11 => if v11 ≤ s9.2.1 then if gm_tag s9.2.2 a0 = 17 then gm_bV (f_X12_goesBack a0 s9.2.2) (fun m12 => some (Sum.inr (some (.int s9.1), m12))) else none else if gm_tag s9.2.2 a0 = 17 then gm_bI (f_X12_holdsOf a0 s9.2.1 s9.2.2) (fun x15 m14 => gm_j (fun (s16 : Int32) => some (Sum.inl ((s9.1 ||| s16), (s9.2.1 + (1 : Int32)), m14))) (fun j17 => if x15 ≠ a1 then j17 (0 : Int32) else j17 ((1 : Int32) <<< (s9.2.1 &&& 31)))) else none))) 5000 ((0 : Int32), (0 : Int32), m7)) else none) else none else some (some (.int (-2 : Int32)), m3)))
set_option maxHeartbeats 4000000 in
theorem c_X12_who (a0 : Nat) (a1 : Int32) (a2 : Int32) (μ : gm_M) : gm_Call ({ cls := "GumBubbleModel", name := "who", desc := "(II)I" } : Jvm.MethodName) prog_14_method_69_code 5 (some .int) 5 0 0 [.ref a0, .int a1, .int a2] μ (f_X12_who a0 a1 a2 μ) := by
  refine gm_start PN_12 (Nat.le_of_ble_eq_true rfl) (fun res μe => ?_)
  unfold f_X12_who
  show gm_A "GumBubbleModel" (gm_nm "who") _ _ _ _ _ _ _ _ _ 0 [(0, .ref a0), (1, .int a1), (2, .int a2)] [] _ _
  refine gm_iload_n d_X12_who_0 rfl 1 rfl ?_
  refine gm_iconst (v := 0) d_X12_who_1 (by decide) ?_
  refine gm_sipush (v := 999) d_X12_who_2 (by decide) ?_
  refine gm_callS [.int a1, .int (0 : Int32), .int (999 : Int32)] (c_X12_in a1 (0 : Int32) (999 : Int32) μ) B_X12_in gw_964 rfl rfl rfl d_X12_who_5 (gm_kI (fun x2 m1 => ?_))
  refine gm_if_eq (tgt := 21) d_X12_who_8 (by decide) (fun h8 => ?_) (fun h8 => ?_)
  ·
    refine gm_bipush (v := -2) d_X12_who_21 (by decide) ?_
    exact gm_iret rfl d_X12_who_23 (Nat.le_of_ble_eq_true rfl) (Nat.le_of_ble_eq_true rfl) (fun h => h)
  ·
    refine gm_iload_n d_X12_who_11 rfl 2 rfl ?_
    refine gm_iconst (v := 0) d_X12_who_12 (by decide) ?_
    refine gm_bipush (v := 40) d_X12_who_13 (by decide) ?_
    refine gm_callS [.int a2, .int (0 : Int32), .int (40 : Int32)] (c_X12_in a2 (0 : Int32) (40 : Int32) m1) B_X12_in gw_964 rfl rfl rfl d_X12_who_15 (gm_kI (fun x4 m3 => ?_))
    refine gm_if_ne (tgt := 24) d_X12_who_18 (by decide) (fun h18 => ?_) (fun h18 => ?_)
    ·
      refine gm_aload_n d_X12_who_24 rfl 0 rfl ?_
      refine gm_grd (fun g25 => ?_)
      refine gm_callV (k0 := 12) [] (c_X12_keeps a0 m3) g25 rfl B_X12_keeps gw_1126 gs_52 rfl rfl rfl d_X12_who_25 (gm_kV (fun m5 => ?_))
      refine gm_aload_n d_X12_who_28 rfl 0 rfl ?_
      refine gm_iload_n d_X12_who_29 rfl 2 rfl ?_
      refine gm_grd (fun g30 => ?_)
      refine gm_callV (k0 := 12) [.int a2] (c_X12_goesOn a0 a2 m5) g30 rfl B_X12_goesOn gw_1110 gs_49 rfl rfl rfl d_X12_who_30 (gm_kV (fun m7 => ?_))
      refine gm_iconst (v := 0) d_X12_who_33 (by decide) ?_
      refine gm_istore_n (L' := [(3, .int (0 : Int32)), (0, .ref a0), (1, .int a1), (2, .int a2)]) d_X12_who_34 rfl (Nat.le_of_ble_eq_true rfl) rfl ?_
      refine gm_iconst (v := 0) d_X12_who_35 (by decide) ?_
      refine gm_istore (L' := [(4, .int (0 : Int32)), (3, .int (0 : Int32)), (0, .ref a0), (1, .int a1), (2, .int a2)]) d_X12_who_36 (Nat.le_of_ble_eq_true rfl) rfl ?_
      refine gm_sub (L' := [(0, .ref a0), (1, .int a1), (2, .int a2), (3, .int (0 : Int32)), (4, .int (0 : Int32))]) [2, 3, 4, 1, 0] rfl ?_
      refine gm_lp (S := Int32 × Int32 × gm_M) (fun _ => 0) (fun _ => 0) (fun s9 => s9.2.2) (fun s9 => [(0, .ref a0), (1, .int a1), (2, .int a2), (3, .int s9.1), (4, .int s9.2.1)]) (fun _ => []) (fun s9 => ?_) 5000 ((0 : Int32), (0 : Int32), m7)
      refine gm_iload d_X12_who_38 4 rfl ?_
      refine gm_aload_n d_X12_who_40 rfl 0 rfl ?_
      refine gm_getR F_12_s gw_890 d_X12_who_41 (fun v10 _ => ?_)
      refine gm_bipush (v := 26) d_X12_who_44 (by decide) ?_
      refine gm_iald d_X12_who_46 (fun v11 _ => ?_)
      refine gm_icmp_ge (tgt := 77) d_X12_who_47 (by decide) (fun h47 => ?_) (fun h47 => ?_)
      ·
        refine gm_aload_n d_X12_who_77 rfl 0 rfl ?_
        refine gm_grd (fun g78 => ?_)
        refine gm_callV (k0 := 12) [] (c_X12_goesBack a0 s9.2.2) g78 rfl B_X12_goesBack gw_1130 gs_53 rfl rfl rfl d_X12_who_78 (gm_kV (fun m12 => ?_))
        refine gm_iload_n d_X12_who_81 rfl 3 rfl ?_
        exact gm_iret rfl d_X12_who_82 (Nat.le_of_ble_eq_true rfl) (Nat.le_of_ble_eq_true rfl) (fun h => h)
      ·
        refine gm_iload_n d_X12_who_50 rfl 3 rfl ?_
        refine gm_aload_n d_X12_who_51 rfl 0 rfl ?_
        refine gm_iload d_X12_who_52 4 rfl ?_
        refine gm_grd (fun g54 => ?_)
        refine gm_callV (k0 := 12) [.int s9.2.1] (c_X12_holdsOf a0 s9.2.1 s9.2.2) g54 rfl B_X12_holdsOf gw_1074 gs_45 rfl rfl rfl d_X12_who_54 (gm_kI (fun x15 m14 => ?_))
        refine gm_iload_n d_X12_who_57 rfl 1 rfl ?_
        refine gm_join (S := Int32) (pj := 69) (kj := 0) (nj := 0) (fun s16 => m14) (fun s16 => [(0, .ref a0), (1, .int a1), (2, .int a2), (3, .int s9.1), (4, .int s9.2.1)]) (fun s16 => [.int s16, .int s9.1]) (fun s16 => ?_) (fun j17 hj17 => ?_)
        ·
          refine gm_ior d_X12_who_69 ?_
          refine gm_istore_n (L' := [(3, .int (s9.1 ||| s16)), (0, .ref a0), (1, .int a1), (2, .int a2), (4, .int s9.2.1)]) d_X12_who_70 rfl (Nat.le_of_ble_eq_true rfl) rfl ?_
          refine gm_iinc (v := s9.2.1 + (1 : Int32)) (L' := [(4, .int (s9.2.1 + (1 : Int32))), (3, .int (s9.1 ||| s16)), (0, .ref a0), (1, .int a1), (2, .int a2)]) d_X12_who_71 4 rfl rfl (Nat.le_of_ble_eq_true rfl) rfl ?_
          refine gm_goto (tgt := 38) d_X12_who_74 (by decide) ?_
          refine gm_sub (L' := [(0, .ref a0), (1, .int a1), (2, .int a2), (3, .int (s9.1 ||| s16)), (4, .int (s9.2.1 + (1 : Int32)))]) [2, 3, 4, 1, 0] rfl ?_
          exact gm_back (fun h => h)
        ·
          refine gm_icmp_ne (tgt := 68) d_X12_who_58 (by decide) (fun h58 => ?_) (fun h58 => ?_)
          ·
            refine gm_iconst (v := 0) d_X12_who_68 (by decide) ?_
            exact hj17 (0 : Int32)
          ·
            refine gm_iconst (v := 1) d_X12_who_61 (by decide) ?_
            refine gm_iload d_X12_who_62 4 rfl ?_
            refine gm_ishl d_X12_who_64 ?_
            refine gm_goto (tgt := 69) d_X12_who_65 (by decide) ?_
            exact hj17 ((1 : Int32) <<< (s9.2.1 &&& 31))
    ·
      refine gm_bipush (v := -2) d_X12_who_21 (by decide) ?_
      exact gm_iret rfl d_X12_who_23 (Nat.le_of_ble_eq_true rfl) (Nat.le_of_ble_eq_true rfl) (fun h => h)

