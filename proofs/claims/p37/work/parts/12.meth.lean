section
theorem d_X12_done_0 : decode prog_14_method_76_code 0 = .ok (.iload_n 1, 1) := ge_iload_n_1 (by decide +kernel)
theorem d_X12_done_1 : decode prog_14_method_76_code 1 = .ok (.iconst 0, 1) := ge_iconst_0 (by decide +kernel)
theorem d_X12_done_2 : decode prog_14_method_76_code 2 = .ok (.iconst 1, 1) := ge_iconst_1 (by decide +kernel)
theorem d_X12_done_3 : decode prog_14_method_76_code 3 = .ok (.invokestatic 44, 3) := ge_invokestatic (by decide +kernel)
theorem d_X12_done_6 : decode prog_14_method_76_code 6 = .ok (.ifCond .ne 5, 3) := ge_ifCond_ne (by decide +kernel)
theorem d_X12_done_9 : decode prog_14_method_76_code 9 = .ok (.iconst (-1), 1) := ge_iconst_m1_ (by decide +kernel)
theorem d_X12_done_10 : decode prog_14_method_76_code 10 = .ok (.ireturn, 1) := ge_ireturn (by decide +kernel)
theorem d_X12_done_11 : decode prog_14_method_76_code 11 = .ok (.aload_n 0, 1) := ge_aload_n_0 (by decide +kernel)
theorem d_X12_done_12 : decode prog_14_method_76_code 12 = .ok (.invokevirtual 183, 3) := ge_invokevirtual (by decide +kernel)
theorem d_X12_done_15 : decode prog_14_method_76_code 15 = .ok (.aload_n 0, 1) := ge_aload_n_0 (by decide +kernel)
theorem d_X12_done_16 : decode prog_14_method_76_code 16 = .ok (.bipush 21, 2) := ge_bipush (by decide +kernel)
theorem d_X12_done_18 : decode prog_14_method_76_code 18 = .ok (.invokevirtual 241, 3) := ge_invokevirtual (by decide +kernel)
theorem d_X12_done_21 : decode prog_14_method_76_code 21 = .ok (.istore_n 2, 1) := ge_istore_n_2 (by decide +kernel)
theorem d_X12_done_22 : decode prog_14_method_76_code 22 = .ok (.iconst 0, 1) := ge_iconst_0 (by decide +kernel)
theorem d_X12_done_23 : decode prog_14_method_76_code 23 = .ok (.istore_n 3, 1) := ge_istore_n_3 (by decide +kernel)
theorem d_X12_done_24 : decode prog_14_method_76_code 24 = .ok (.iload_n 3, 1) := ge_iload_n_3 (by decide +kernel)
theorem d_X12_done_25 : decode prog_14_method_76_code 25 = .ok (.aload_n 0, 1) := ge_aload_n_0 (by decide +kernel)
theorem d_X12_done_26 : decode prog_14_method_76_code 26 = .ok (.getfield 9, 3) := ge_getfield (by decide +kernel)
theorem d_X12_done_29 : decode prog_14_method_76_code 29 = .ok (.bipush 29, 2) := ge_bipush (by decide +kernel)
theorem d_X12_done_31 : decode prog_14_method_76_code 31 = .ok (.iaload, 1) := ge_iaload (by decide +kernel)
theorem d_X12_done_32 : decode prog_14_method_76_code 32 = .ok (.if_icmp .ge 31, 3) := ge_if_icmp_ge (by decide +kernel)
theorem d_X12_done_35 : decode prog_14_method_76_code 35 = .ok (.aload_n 0, 1) := ge_aload_n_0 (by decide +kernel)
theorem d_X12_done_36 : decode prog_14_method_76_code 36 = .ok (.aload_n 0, 1) := ge_aload_n_0 (by decide +kernel)
theorem d_X12_done_37 : decode prog_14_method_76_code 37 = .ok (.getfield 9, 3) := ge_getfield (by decide +kernel)
theorem d_X12_done_40 : decode prog_14_method_76_code 40 = .ok (.bipush 78, 2) := ge_bipush (by decide +kernel)
theorem d_X12_done_42 : decode prog_14_method_76_code 42 = .ok (.iload_n 3, 1) := ge_iload_n_3 (by decide +kernel)
theorem d_X12_done_43 : decode prog_14_method_76_code 43 = .ok (.iadd, 1) := ge_iadd (by decide +kernel)
theorem d_X12_done_44 : decode prog_14_method_76_code 44 = .ok (.iaload, 1) := ge_iaload (by decide +kernel)
theorem d_X12_done_45 : decode prog_14_method_76_code 45 = .ok (.aload_n 0, 1) := ge_aload_n_0 (by decide +kernel)
theorem d_X12_done_46 : decode prog_14_method_76_code 46 = .ok (.getfield 9, 3) := ge_getfield (by decide +kernel)
theorem d_X12_done_49 : decode prog_14_method_76_code 49 = .ok (.bipush 86, 2) := ge_bipush (by decide +kernel)
theorem d_X12_done_51 : decode prog_14_method_76_code 51 = .ok (.iload_n 3, 1) := ge_iload_n_3 (by decide +kernel)
theorem d_X12_done_52 : decode prog_14_method_76_code 52 = .ok (.iadd, 1) := ge_iadd (by decide +kernel)
theorem d_X12_done_53 : decode prog_14_method_76_code 53 = .ok (.iaload, 1) := ge_iaload (by decide +kernel)
theorem d_X12_done_54 : decode prog_14_method_76_code 54 = .ok (.invokevirtual 244, 3) := ge_invokevirtual (by decide +kernel)
theorem d_X12_done_57 : decode prog_14_method_76_code 57 = .ok (.iinc 3 1, 3) := ge_iinc (by decide +kernel)
theorem d_X12_done_60 : decode prog_14_method_76_code 60 = .ok (.goto (-36), 3) := ge_goto (by decide +kernel)
theorem d_X12_done_63 : decode prog_14_method_76_code 63 = .ok (.iload_n 1, 1) := ge_iload_n_1 (by decide +kernel)
theorem d_X12_done_64 : decode prog_14_method_76_code 64 = .ok (.ifCond .ne 12, 3) := ge_ifCond_ne (by decide +kernel)
theorem d_X12_done_67 : decode prog_14_method_76_code 67 = .ok (.aload_n 0, 1) := ge_aload_n_0 (by decide +kernel)
theorem d_X12_done_68 : decode prog_14_method_76_code 68 = .ok (.bipush 16, 2) := ge_bipush (by decide +kernel)
theorem d_X12_done_70 : decode prog_14_method_76_code 70 = .ok (.invokevirtual 241, 3) := ge_invokevirtual (by decide +kernel)
theorem d_X12_done_73 : decode prog_14_method_76_code 73 = .ok (.goto 11, 3) := ge_goto (by decide +kernel)
theorem d_X12_done_76 : decode prog_14_method_76_code 76 = .ok (.aload_n 0, 1) := ge_aload_n_0 (by decide +kernel)
theorem d_X12_done_77 : decode prog_14_method_76_code 77 = .ok (.bipush 21, 2) := ge_bipush (by decide +kernel)
theorem d_X12_done_79 : decode prog_14_method_76_code 79 = .ok (.invokevirtual 241, 3) := ge_invokevirtual (by decide +kernel)
theorem d_X12_done_82 : decode prog_14_method_76_code 82 = .ok (.iload_n 2, 1) := ge_iload_n_2 (by decide +kernel)
theorem d_X12_done_83 : decode prog_14_method_76_code 83 = .ok (.isub, 1) := ge_isub (by decide +kernel)
theorem d_X12_done_84 : decode prog_14_method_76_code 84 = .ok (.istore_n 3, 1) := ge_istore_n_3 (by decide +kernel)
theorem d_X12_done_85 : decode prog_14_method_76_code 85 = .ok (.aload_n 0, 1) := ge_aload_n_0 (by decide +kernel)
theorem d_X12_done_86 : decode prog_14_method_76_code 86 = .ok (.invokevirtual 186, 3) := ge_invokevirtual (by decide +kernel)
theorem d_X12_done_89 : decode prog_14_method_76_code 89 = .ok (.iload_n 3, 1) := ge_iload_n_3 (by decide +kernel)
theorem d_X12_done_90 : decode prog_14_method_76_code 90 = .ok (.ireturn, 1) := ge_ireturn (by decide +kernel)
def f_X12_done (a0 : Nat) (a1 : Int32) (μ : gm_M) : Option (Option Value × gm_M) := gm_bI (f_X12_in a1 (0 : Int32) (1 : Int32) μ) (fun x2 m1 => if x2 ≠ 0 then if gm_tag m1 a0 = 17 then gm_bV (f_X12_keeps a0 m1) (fun m3 => if gm_tag m3 a0 = 17 then gm_bI (f_X12_allOf a0 (21 : Int32) m3) (fun x6 m5 => gm_loop (fun (s7 : Int32 × gm_M) => gm_gR s7.2 [17] a0 1 (fun v8 => gm_aI s7.2 v8 (29 : Int32) (fun v9 => if v9 ≤ s7.1 then gm_j (fun (s10 : Int32 × gm_M) => if gm_tag s10.2 a0 = 17 then gm_bV (f_X12_goesBack a0 s10.2) (fun m12 => some (Sum.inr (some (.int s10.1), m12))) else none) (fun j11 => if a1 ≠ 0 then if gm_tag s7.2 a0 = 17 then gm_bI (f_X12_allOf a0 (21 : Int32) s7.2) (fun x15 m14 => j11 ((x15 - x6), m14)) else none else if gm_tag s7.2 a0 = 17 then gm_bI (f_X12_allOf a0 (16 : Int32) s7.2) (fun x17 m16 => j11 (x17, m16)) else none) else gm_gR s7.2 [17] a0 1 (fun v18 => gm_aI s7.2 v18 ((78 : Int32) + s7.1) (fun v19 => gm_gR s7.2 [17] a0 1 (fun v20 => gm_aI s7.2 v20 ((86 : Int32) + s7.1) (fun v21 => if gm_tag s7.2 a0 = 17 then gm_bV (f_X12_does a0 v19 v21 s7.2) (fun m22 => some (Sum.inl ((s7.1 + (1 : Int32)), m22))) else none))))))) 5000 ((0 : Int32), m5)) else none) else none else some (some (.int (-1 : Int32)), m1))
set_option maxHeartbeats 4000000 in
theorem c_X12_done (a0 : Nat) (a1 : Int32) (μ : gm_M) : gm_Call ({ cls := "GumBubbleModel", name := "done", desc := "(I)I" } : Jvm.MethodName) prog_14_method_76_code 4 (some .int) 6 0 0 [.ref a0, .int a1] μ (f_X12_done a0 a1 μ) := by
  refine gm_start PN_12 (Nat.le_of_ble_eq_true rfl) (fun res μe => ?_)
  unfold f_X12_done
  show gm_A "GumBubbleModel" (gm_nm "done") _ _ _ _ _ _ _ _ _ 0 [(0, .ref a0), (1, .int a1)] [] _ _
  refine gm_iload_n d_X12_done_0 rfl 1 rfl ?_
  refine gm_iconst (v := 0) d_X12_done_1 (by decide) ?_
  refine gm_iconst (v := 1) d_X12_done_2 (by decide) ?_
  refine gm_callS [.int a1, .int (0 : Int32), .int (1 : Int32)] (c_X12_in a1 (0 : Int32) (1 : Int32) μ) B_X12_in gw_964 rfl rfl rfl d_X12_done_3 (gm_kI (fun x2 m1 => ?_))
  refine gm_if_ne (tgt := 11) d_X12_done_6 (by decide) (fun h6 => ?_) (fun h6 => ?_)
  ·
    refine gm_aload_n d_X12_done_11 rfl 0 rfl ?_
    refine gm_grd (fun g12 => ?_)
    refine gm_callV (k0 := 12) [] (c_X12_keeps a0 m1) g12 rfl B_X12_keeps gw_1126 gs_52 rfl rfl rfl d_X12_done_12 (gm_kV (fun m3 => ?_))
    refine gm_aload_n d_X12_done_15 rfl 0 rfl ?_
    refine gm_bipush (v := 21) d_X12_done_16 (by decide) ?_
    refine gm_grd (fun g18 => ?_)
    refine gm_callV (k0 := 12) [.int (21 : Int32)] (c_X12_allOf a0 (21 : Int32) m3) g18 rfl B_X12_allOf gw_1254 gs_62 rfl rfl rfl d_X12_done_18 (gm_kI (fun x6 m5 => ?_))
    refine gm_istore_n (L' := [(2, .int x6), (0, .ref a0), (1, .int a1)]) d_X12_done_21 rfl (Nat.le_of_ble_eq_true rfl) rfl ?_
    refine gm_iconst (v := 0) d_X12_done_22 (by decide) ?_
    refine gm_istore_n (L' := [(3, .int (0 : Int32)), (2, .int x6), (0, .ref a0), (1, .int a1)]) d_X12_done_23 rfl (Nat.le_of_ble_eq_true rfl) rfl ?_
    refine gm_sub (L' := [(0, .ref a0), (1, .int a1), (2, .int x6), (3, .int (0 : Int32))]) [2, 3, 1, 0] rfl ?_
    refine gm_lp (S := Int32 × gm_M) (fun _ => 0) (fun _ => 0) (fun s7 => s7.2) (fun s7 => [(0, .ref a0), (1, .int a1), (2, .int x6), (3, .int s7.1)]) (fun _ => []) (fun s7 => ?_) 5000 ((0 : Int32), m5)
    refine gm_iload_n d_X12_done_24 rfl 3 rfl ?_
    refine gm_aload_n d_X12_done_25 rfl 0 rfl ?_
    refine gm_getR F_12_s gw_890 d_X12_done_26 (fun v8 _ => ?_)
    refine gm_bipush (v := 29) d_X12_done_29 (by decide) ?_
    refine gm_iald d_X12_done_31 (fun v9 _ => ?_)
    refine gm_icmp_ge (tgt := 63) d_X12_done_32 (by decide) (fun h32 => ?_) (fun h32 => ?_)
    ·
      refine gm_iload_n d_X12_done_63 rfl 1 rfl ?_
      refine gm_join (S := Int32 × gm_M) (pj := 84) (kj := 0) (nj := 0) (fun s10 => s10.2) (fun s10 => [(0, .ref a0), (1, .int a1), (2, .int x6), (3, .int s7.1)]) (fun s10 => [.int s10.1]) (fun s10 => ?_) (fun j11 hj11 => ?_)
      ·
        refine gm_istore_n (L' := [(3, .int s10.1), (0, .ref a0), (1, .int a1), (2, .int x6)]) d_X12_done_84 rfl (Nat.le_of_ble_eq_true rfl) rfl ?_
        refine gm_aload_n d_X12_done_85 rfl 1 rfl ?_
        refine gm_grd (fun g86 => ?_)
        refine gm_callV (k0 := 12) [] (c_X12_goesBack a0 s10.2) g86 rfl B_X12_goesBack gw_1130 gs_53 rfl rfl rfl d_X12_done_86 (gm_kV (fun m12 => ?_))
        refine gm_iload_n d_X12_done_89 rfl 0 rfl ?_
        exact gm_iret rfl d_X12_done_90 (Nat.le_of_ble_eq_true rfl) (Nat.le_of_ble_eq_true rfl) (fun h => h)
      ·
        refine gm_if_ne (tgt := 76) d_X12_done_64 (by decide) (fun h64 => ?_) (fun h64 => ?_)
        ·
          refine gm_aload_n d_X12_done_76 rfl 0 rfl ?_
          refine gm_bipush (v := 21) d_X12_done_77 (by decide) ?_
          refine gm_grd (fun g79 => ?_)
          refine gm_callV (k0 := 12) [.int (21 : Int32)] (c_X12_allOf a0 (21 : Int32) s7.2) g79 rfl B_X12_allOf gw_1254 gs_62 rfl rfl rfl d_X12_done_79 (gm_kI (fun x15 m14 => ?_))
          refine gm_iload_n d_X12_done_82 rfl 2 rfl ?_
          refine gm_isub d_X12_done_83 ?_
          exact hj11 ((x15 - x6), m14)
        ·
          refine gm_aload_n d_X12_done_67 rfl 0 rfl ?_
          refine gm_bipush (v := 16) d_X12_done_68 (by decide) ?_
          refine gm_grd (fun g70 => ?_)
          refine gm_callV (k0 := 12) [.int (16 : Int32)] (c_X12_allOf a0 (16 : Int32) s7.2) g70 rfl B_X12_allOf gw_1254 gs_62 rfl rfl rfl d_X12_done_70 (gm_kI (fun x17 m16 => ?_))
          refine gm_goto (tgt := 84) d_X12_done_73 (by decide) ?_
          exact hj11 (x17, m16)
    ·
      refine gm_aload_n d_X12_done_35 rfl 0 rfl ?_
      refine gm_aload_n d_X12_done_36 rfl 0 rfl ?_
      refine gm_getR F_12_s gw_890 d_X12_done_37 (fun v18 _ => ?_)
      refine gm_bipush (v := 78) d_X12_done_40 (by decide) ?_
      refine gm_iload_n d_X12_done_42 rfl 3 rfl ?_
      refine gm_iadd d_X12_done_43 ?_
      refine gm_iald d_X12_done_44 (fun v19 _ => ?_)
      refine gm_aload_n d_X12_done_45 rfl 0 rfl ?_
      refine gm_getR F_12_s gw_890 d_X12_done_46 (fun v20 _ => ?_)
      refine gm_bipush (v := 86) d_X12_done_49 (by decide) ?_
      refine gm_iload_n d_X12_done_51 rfl 3 rfl ?_
      refine gm_iadd d_X12_done_52 ?_
      refine gm_iald d_X12_done_53 (fun v21 _ => ?_)
      refine gm_grd (fun g54 => ?_)
      refine gm_callV (k0 := 12) [.int v19, .int v21] (c_X12_does a0 v19 v21 s7.2) g54 rfl B_X12_does gw_1258 gs_63 rfl rfl rfl d_X12_done_54 (gm_kV (fun m22 => ?_))
      refine gm_iinc (v := s7.1 + (1 : Int32)) (L' := [(3, .int (s7.1 + (1 : Int32))), (0, .ref a0), (1, .int a1), (2, .int x6)]) d_X12_done_57 3 rfl rfl (Nat.le_of_ble_eq_true rfl) rfl ?_
      refine gm_goto (tgt := 24) d_X12_done_60 (by decide) ?_
      refine gm_sub (L' := [(0, .ref a0), (1, .int a1), (2, .int x6), (3, .int (s7.1 + (1 : Int32)))]) [1, 2, 3, 0] rfl ?_
      exact gm_back (fun h => h)
  ·
    refine gm_iconst (v := -1) d_X12_done_9 (by decide) ?_
    exact gm_iret rfl d_X12_done_10 (Nat.le_of_ble_eq_true rfl) (Nat.le_of_ble_eq_true rfl) (fun h => h)
theorem d_X12_feed_0 : decode prog_14_method_9_code 0 = .ok (.iload_n 1, 1) := ge_iload_n_1 (by decide +kernel)
theorem d_X12_feed_1 : decode prog_14_method_9_code 1 = .ok (.iconst 0, 1) := ge_iconst_0 (by decide +kernel)
theorem d_X12_feed_2 : decode prog_14_method_9_code 2 = .ok (.bipush 127, 2) := ge_bipush (by decide +kernel)
theorem d_X12_feed_4 : decode prog_14_method_9_code 4 = .ok (.invokestatic 44, 3) := ge_invokestatic (by decide +kernel)
theorem d_X12_feed_7 : decode prog_14_method_9_code 7 = .ok (.ifCond .ne 6, 3) := ge_ifCond_ne (by decide +kernel)
theorem d_X12_feed_10 : decode prog_14_method_9_code 10 = .ok (.bipush (-2), 2) := ge_bipush (by decide +kernel)
theorem d_X12_feed_12 : decode prog_14_method_9_code 12 = .ok (.ireturn, 1) := ge_ireturn (by decide +kernel)
theorem d_X12_feed_13 : decode prog_14_method_9_code 13 = .ok (.aload_n 0, 1) := ge_aload_n_0 (by decide +kernel)
theorem d_X12_feed_14 : decode prog_14_method_9_code 14 = .ok (.getfield 9, 3) := ge_getfield (by decide +kernel)
theorem d_X12_feed_17 : decode prog_14_method_9_code 17 = .ok (.bipush 31, 2) := ge_bipush (by decide +kernel)
theorem d_X12_feed_19 : decode prog_14_method_9_code 19 = .ok (.iaload, 1) := ge_iaload (by decide +kernel)
theorem d_X12_feed_20 : decode prog_14_method_9_code 20 = .ok (.bipush 100, 2) := ge_bipush (by decide +kernel)
theorem d_X12_feed_22 : decode prog_14_method_9_code 22 = .ok (.if_icmp .ne 6, 3) := ge_if_icmp_ne (by decide +kernel)
theorem d_X12_feed_25 : decode prog_14_method_9_code 25 = .ok (.bipush (-4), 2) := ge_bipush (by decide +kernel)
theorem d_X12_feed_27 : decode prog_14_method_9_code 27 = .ok (.ireturn, 1) := ge_ireturn (by decide +kernel)
theorem d_X12_feed_28 : decode prog_14_method_9_code 28 = .ok (.aload_n 0, 1) := ge_aload_n_0 (by decide +kernel)
theorem d_X12_feed_29 : decode prog_14_method_9_code 29 = .ok (.getfield 9, 3) := ge_getfield (by decide +kernel)
theorem d_X12_feed_32 : decode prog_14_method_9_code 32 = .ok (.bipush 110, 2) := ge_bipush (by decide +kernel)
theorem d_X12_feed_34 : decode prog_14_method_9_code 34 = .ok (.aload_n 0, 1) := ge_aload_n_0 (by decide +kernel)
theorem d_X12_feed_35 : decode prog_14_method_9_code 35 = .ok (.getfield 9, 3) := ge_getfield (by decide +kernel)
theorem d_X12_feed_38 : decode prog_14_method_9_code 38 = .ok (.bipush 31, 2) := ge_bipush (by decide +kernel)
theorem d_X12_feed_40 : decode prog_14_method_9_code 40 = .ok (.iaload, 1) := ge_iaload (by decide +kernel)
theorem d_X12_feed_41 : decode prog_14_method_9_code 41 = .ok (.iadd, 1) := ge_iadd (by decide +kernel)
theorem d_X12_feed_42 : decode prog_14_method_9_code 42 = .ok (.iload_n 1, 1) := ge_iload_n_1 (by decide +kernel)
theorem d_X12_feed_43 : decode prog_14_method_9_code 43 = .ok (.iastore, 1) := ge_iastore (by decide +kernel)
theorem d_X12_feed_44 : decode prog_14_method_9_code 44 = .ok (.aload_n 0, 1) := ge_aload_n_0 (by decide +kernel)
theorem d_X12_feed_45 : decode prog_14_method_9_code 45 = .ok (.getfield 9, 3) := ge_getfield (by decide +kernel)
theorem d_X12_feed_48 : decode prog_14_method_9_code 48 = .ok (.bipush 31, 2) := ge_bipush (by decide +kernel)
theorem d_X12_feed_50 : decode prog_14_method_9_code 50 = .ok (.dup2, 1) := ge_dup2 (by decide +kernel)
theorem d_X12_feed_51 : decode prog_14_method_9_code 51 = .ok (.iaload, 1) := ge_iaload (by decide +kernel)
theorem d_X12_feed_52 : decode prog_14_method_9_code 52 = .ok (.iconst 1, 1) := ge_iconst_1 (by decide +kernel)
theorem d_X12_feed_53 : decode prog_14_method_9_code 53 = .ok (.iadd, 1) := ge_iadd (by decide +kernel)
theorem d_X12_feed_54 : decode prog_14_method_9_code 54 = .ok (.iastore, 1) := ge_iastore (by decide +kernel)
theorem d_X12_feed_55 : decode prog_14_method_9_code 55 = .ok (.aload_n 0, 1) := ge_aload_n_0 (by decide +kernel)
theorem d_X12_feed_56 : decode prog_14_method_9_code 56 = .ok (.getfield 9, 3) := ge_getfield (by decide +kernel)
theorem d_X12_feed_59 : decode prog_14_method_9_code 59 = .ok (.bipush 31, 2) := ge_bipush (by decide +kernel)
theorem d_X12_feed_61 : decode prog_14_method_9_code 61 = .ok (.iaload, 1) := ge_iaload (by decide +kernel)
theorem d_X12_feed_62 : decode prog_14_method_9_code 62 = .ok (.ireturn, 1) := ge_ireturn (by decide +kernel)
def f_X12_feed (a0 : Nat) (a1 : Int32) (μ : gm_M) : Option (Option Value × gm_M) := gm_bI (f_X12_in a1 (0 : Int32) (127 : Int32) μ) (fun x2 m1 => if x2 ≠ 0 then gm_gR m1 [17] a0 1 (fun v3 => gm_aI m1 v3 (31 : Int32) (fun v4 => if v4 ≠ (100 : Int32) then gm_gR m1 [17] a0 1 (fun v5 => gm_gR m1 [17] a0 1 (fun v6 => gm_aI m1 v6 (31 : Int32) (fun v7 => gm_sI m1 v5 ((110 : Int32) + v7) a1 (fun m8 => gm_gR m8 [17] a0 1 (fun v9 => gm_aI m8 v9 (31 : Int32) (fun v10 => gm_sI m8 v9 (31 : Int32) (v10 + (1 : Int32)) (fun m11 => gm_gR m11 [17] a0 1 (fun v12 => gm_aI m11 v12 (31 : Int32) (fun v13 => some (some (.int v13), m11)))))))))) else some (some (.int (-4 : Int32)), m1))) else some (some (.int (-2 : Int32)), m1))
set_option maxHeartbeats 4000000 in
theorem c_X12_feed (a0 : Nat) (a1 : Int32) (μ : gm_M) : gm_Call ({ cls := "GumBubbleModel", name := "feed", desc := "(I)I" } : Jvm.MethodName) prog_14_method_9_code 2 (some .int) 1 0 0 [.ref a0, .int a1] μ (f_X12_feed a0 a1 μ) := by
  refine gm_start PN_12 (Nat.le_of_ble_eq_true rfl) (fun res μe => ?_)
  unfold f_X12_feed
  show gm_A "GumBubbleModel" (gm_nm "feed") _ _ _ _ _ _ _ _ _ 0 [(0, .ref a0), (1, .int a1)] [] _ _
  refine gm_iload_n d_X12_feed_0 rfl 1 rfl ?_
  refine gm_iconst (v := 0) d_X12_feed_1 (by decide) ?_
  refine gm_bipush (v := 127) d_X12_feed_2 (by decide) ?_
  refine gm_callS [.int a1, .int (0 : Int32), .int (127 : Int32)] (c_X12_in a1 (0 : Int32) (127 : Int32) μ) B_X12_in gw_964 rfl rfl rfl d_X12_feed_4 (gm_kI (fun x2 m1 => ?_))
  refine gm_if_ne (tgt := 13) d_X12_feed_7 (by decide) (fun h7 => ?_) (fun h7 => ?_)
  ·
    refine gm_aload_n d_X12_feed_13 rfl 0 rfl ?_
    refine gm_getR F_12_s gw_890 d_X12_feed_14 (fun v3 _ => ?_)
    refine gm_bipush (v := 31) d_X12_feed_17 (by decide) ?_
    refine gm_iald d_X12_feed_19 (fun v4 _ => ?_)
    refine gm_bipush (v := 100) d_X12_feed_20 (by decide) ?_
    refine gm_icmp_ne (tgt := 28) d_X12_feed_22 (by decide) (fun h22 => ?_) (fun h22 => ?_)
    ·
      refine gm_aload_n d_X12_feed_28 rfl 0 rfl ?_
      refine gm_getR F_12_s gw_890 d_X12_feed_29 (fun v5 _ => ?_)
      refine gm_bipush (v := 110) d_X12_feed_32 (by decide) ?_
      refine gm_aload_n d_X12_feed_34 rfl 0 rfl ?_
      refine gm_getR F_12_s gw_890 d_X12_feed_35 (fun v6 _ => ?_)
      refine gm_bipush (v := 31) d_X12_feed_38 (by decide) ?_
      refine gm_iald d_X12_feed_40 (fun v7 _ => ?_)
      refine gm_iadd d_X12_feed_41 ?_
      refine gm_iload_n d_X12_feed_42 rfl 1 rfl ?_
      refine gm_iast d_X12_feed_43 (fun m8 _ => ?_)
      refine gm_aload_n d_X12_feed_44 rfl 0 rfl ?_
      refine gm_getR F_12_s gw_890 d_X12_feed_45 (fun v9 _ => ?_)
      refine gm_bipush (v := 31) d_X12_feed_48 (by decide) ?_
      refine gm_dup2 d_X12_feed_50 rfl rfl ?_
      refine gm_iald d_X12_feed_51 (fun v10 _ => ?_)
      refine gm_iconst (v := 1) d_X12_feed_52 (by decide) ?_
      refine gm_iadd d_X12_feed_53 ?_
      refine gm_iast d_X12_feed_54 (fun m11 _ => ?_)
      refine gm_aload_n d_X12_feed_55 rfl 0 rfl ?_
      refine gm_getR F_12_s gw_890 d_X12_feed_56 (fun v12 _ => ?_)
      refine gm_bipush (v := 31) d_X12_feed_59 (by decide) ?_
      refine gm_iald d_X12_feed_61 (fun v13 _ => ?_)
      exact gm_iret rfl d_X12_feed_62 (Nat.le_of_ble_eq_true rfl) (Nat.le_of_ble_eq_true rfl) (fun h => h)
    ·
      refine gm_bipush (v := -4) d_X12_feed_25 (by decide) ?_
      exact gm_iret rfl d_X12_feed_27 (Nat.le_of_ble_eq_true rfl) (Nat.le_of_ble_eq_true rfl) (fun h => h)
  ·
    refine gm_bipush (v := -2) d_X12_feed_10 (by decide) ?_
    exact gm_iret rfl d_X12_feed_12 (Nat.le_of_ble_eq_true rfl) (Nat.le_of_ble_eq_true rfl) (fun h => h)
theorem d_X12_firm_0 : decode prog_14_method_70_code 0 = .ok (.aload_n 0, 1) := ge_aload_n_0 (by decide +kernel)
theorem d_X12_firm_1 : decode prog_14_method_70_code 1 = .ok (.iload_n 1, 1) := ge_iload_n_1 (by decide +kernel)
theorem d_X12_firm_2 : decode prog_14_method_70_code 2 = .ok (.invokevirtual 154, 3) := ge_invokevirtual (by decide +kernel)
theorem d_X12_firm_5 : decode prog_14_method_70_code 5 = .ok (.ifCond .eq 12, 3) := ge_ifCond_eq (by decide +kernel)
theorem d_X12_firm_8 : decode prog_14_method_70_code 8 = .ok (.iload_n 2, 1) := ge_iload_n_2 (by decide +kernel)
theorem d_X12_firm_9 : decode prog_14_method_70_code 9 = .ok (.iconst 0, 1) := ge_iconst_0 (by decide +kernel)
theorem d_X12_firm_10 : decode prog_14_method_70_code 10 = .ok (.iconst 1, 1) := ge_iconst_1 (by decide +kernel)
theorem d_X12_firm_11 : decode prog_14_method_70_code 11 = .ok (.invokestatic 44, 3) := ge_invokestatic (by decide +kernel)
theorem d_X12_firm_14 : decode prog_14_method_70_code 14 = .ok (.ifCond .ne 5, 3) := ge_ifCond_ne (by decide +kernel)
theorem d_X12_firm_17 : decode prog_14_method_70_code 17 = .ok (.iconst (-1), 1) := ge_iconst_m1_ (by decide +kernel)
theorem d_X12_firm_18 : decode prog_14_method_70_code 18 = .ok (.ireturn, 1) := ge_ireturn (by decide +kernel)
theorem d_X12_firm_19 : decode prog_14_method_70_code 19 = .ok (.aload_n 0, 1) := ge_aload_n_0 (by decide +kernel)
theorem d_X12_firm_20 : decode prog_14_method_70_code 20 = .ok (.getfield 9, 3) := ge_getfield (by decide +kernel)
theorem d_X12_firm_23 : decode prog_14_method_70_code 23 = .ok (.bipush 38, 2) := ge_bipush (by decide +kernel)
theorem d_X12_firm_25 : decode prog_14_method_70_code 25 = .ok (.iload_n 1, 1) := ge_iload_n_1 (by decide +kernel)
theorem d_X12_firm_26 : decode prog_14_method_70_code 26 = .ok (.iadd, 1) := ge_iadd (by decide +kernel)
theorem d_X12_firm_27 : decode prog_14_method_70_code 27 = .ok (.iaload, 1) := ge_iaload (by decide +kernel)
theorem d_X12_firm_28 : decode prog_14_method_70_code 28 = .ok (.istore_n 3, 1) := ge_istore_n_3 (by decide +kernel)
theorem d_X12_firm_29 : decode prog_14_method_70_code 29 = .ok (.iconst 0, 1) := ge_iconst_0 (by decide +kernel)
theorem d_X12_firm_30 : decode prog_14_method_70_code 30 = .ok (.istore 4, 2) := ge_istore (by decide +kernel)
theorem d_X12_firm_32 : decode prog_14_method_70_code 32 = .ok (.bipush (-5), 2) := ge_bipush (by decide +kernel)
theorem d_X12_firm_34 : decode prog_14_method_70_code 34 = .ok (.istore 5, 2) := ge_istore (by decide +kernel)
theorem d_X12_firm_36 : decode prog_14_method_70_code 36 = .ok (.aload_n 0, 1) := ge_aload_n_0 (by decide +kernel)
theorem d_X12_firm_37 : decode prog_14_method_70_code 37 = .ok (.invokevirtual 183, 3) := ge_invokevirtual (by decide +kernel)
theorem d_X12_firm_40 : decode prog_14_method_70_code 40 = .ok (.bipush 9, 2) := ge_bipush (by decide +kernel)
theorem d_X12_firm_42 : decode prog_14_method_70_code 42 = .ok (.istore 6, 2) := ge_istore (by decide +kernel)
theorem d_X12_firm_44 : decode prog_14_method_70_code 44 = .ok (.iload 6, 2) := ge_iload (by decide +kernel)
theorem d_X12_firm_46 : decode prog_14_method_70_code 46 = .ok (.ifCond .lt 55, 3) := ge_ifCond_lt (by decide +kernel)
theorem d_X12_firm_49 : decode prog_14_method_70_code 49 = .ok (.aload_n 0, 1) := ge_aload_n_0 (by decide +kernel)
theorem d_X12_firm_50 : decode prog_14_method_70_code 50 = .ok (.getfield 9, 3) := ge_getfield (by decide +kernel)
theorem d_X12_firm_53 : decode prog_14_method_70_code 53 = .ok (.bipush 38, 2) := ge_bipush (by decide +kernel)
theorem d_X12_firm_55 : decode prog_14_method_70_code 55 = .ok (.iload_n 1, 1) := ge_iload_n_1 (by decide +kernel)
theorem d_X12_firm_56 : decode prog_14_method_70_code 56 = .ok (.iadd, 1) := ge_iadd (by decide +kernel)
theorem d_X12_firm_57 : decode prog_14_method_70_code 57 = .ok (.iload 6, 2) := ge_iload (by decide +kernel)
theorem d_X12_firm_59 : decode prog_14_method_70_code 59 = .ok (.iastore, 1) := ge_iastore (by decide +kernel)
theorem d_X12_firm_60 : decode prog_14_method_70_code 60 = .ok (.aload_n 0, 1) := ge_aload_n_0 (by decide +kernel)
theorem d_X12_firm_61 : decode prog_14_method_70_code 61 = .ok (.invokevirtual 237, 3) := ge_invokevirtual (by decide +kernel)
theorem d_X12_firm_64 : decode prog_14_method_70_code 64 = .ok (.istore 7, 2) := ge_istore (by decide +kernel)
theorem d_X12_firm_66 : decode prog_14_method_70_code 66 = .ok (.iload 4, 2) := ge_iload (by decide +kernel)
theorem d_X12_firm_68 : decode prog_14_method_70_code 68 = .ok (.iload 7, 2) := ge_iload (by decide +kernel)
theorem d_X12_firm_70 : decode prog_14_method_70_code 70 = .ok (.ifCond .eq 7, 3) := ge_ifCond_eq (by decide +kernel)
theorem d_X12_firm_73 : decode prog_14_method_70_code 73 = .ok (.iconst 1, 1) := ge_iconst_1 (by decide +kernel)
theorem d_X12_firm_74 : decode prog_14_method_70_code 74 = .ok (.goto 4, 3) := ge_goto (by decide +kernel)
theorem d_X12_firm_77 : decode prog_14_method_70_code 77 = .ok (.iconst 0, 1) := ge_iconst_0 (by decide +kernel)
theorem d_X12_firm_78 : decode prog_14_method_70_code 78 = .ok (.iadd, 1) := ge_iadd (by decide +kernel)
theorem d_X12_firm_79 : decode prog_14_method_70_code 79 = .ok (.istore 4, 2) := ge_istore (by decide +kernel)
theorem d_X12_firm_81 : decode prog_14_method_70_code 81 = .ok (.iload 7, 2) := ge_iload (by decide +kernel)
theorem d_X12_firm_83 : decode prog_14_method_70_code 83 = .ok (.ifCond .eq 8, 3) := ge_ifCond_eq (by decide +kernel)
theorem d_X12_firm_86 : decode prog_14_method_70_code 86 = .ok (.iload 6, 2) := ge_iload (by decide +kernel)
theorem d_X12_firm_88 : decode prog_14_method_70_code 88 = .ok (.goto 5, 3) := ge_goto (by decide +kernel)
theorem d_X12_firm_91 : decode prog_14_method_70_code 91 = .ok (.iload 5, 2) := ge_iload (by decide +kernel)
theorem d_X12_firm_93 : decode prog_14_method_70_code 93 = .ok (.istore 5, 2) := ge_istore (by decide +kernel)
theorem d_X12_firm_95 : decode prog_14_method_70_code 95 = .ok (.iinc 6 (-1), 3) := ge_iinc (by decide +kernel)
theorem d_X12_firm_98 : decode prog_14_method_70_code 98 = .ok (.goto (-54), 3) := ge_goto (by decide +kernel)
theorem d_X12_firm_101 : decode prog_14_method_70_code 101 = .ok (.aload_n 0, 1) := ge_aload_n_0 (by decide +kernel)
theorem d_X12_firm_102 : decode prog_14_method_70_code 102 = .ok (.getfield 9, 3) := ge_getfield (by decide +kernel)
theorem d_X12_firm_105 : decode prog_14_method_70_code 105 = .ok (.bipush 38, 2) := ge_bipush (by decide +kernel)
theorem d_X12_firm_107 : decode prog_14_method_70_code 107 = .ok (.iload_n 1, 1) := ge_iload_n_1 (by decide +kernel)
theorem d_X12_firm_108 : decode prog_14_method_70_code 108 = .ok (.iadd, 1) := ge_iadd (by decide +kernel)
theorem d_X12_firm_109 : decode prog_14_method_70_code 109 = .ok (.iload_n 3, 1) := ge_iload_n_3 (by decide +kernel)
theorem d_X12_firm_110 : decode prog_14_method_70_code 110 = .ok (.iastore, 1) := ge_iastore (by decide +kernel)
theorem d_X12_firm_111 : decode prog_14_method_70_code 111 = .ok (.iload_n 2, 1) := ge_iload_n_2 (by decide +kernel)
theorem d_X12_firm_112 : decode prog_14_method_70_code 112 = .ok (.ifCond .ne 8, 3) := ge_ifCond_ne (by decide +kernel)
theorem d_X12_firm_115 : decode prog_14_method_70_code 115 = .ok (.iload 4, 2) := ge_iload (by decide +kernel)
theorem d_X12_firm_117 : decode prog_14_method_70_code 117 = .ok (.goto 5, 3) := ge_goto (by decide +kernel)
theorem d_X12_firm_120 : decode prog_14_method_70_code 120 = .ok (.iload 5, 2) := ge_iload (by decide +kernel)
theorem d_X12_firm_122 : decode prog_14_method_70_code 122 = .ok (.ireturn, 1) := ge_ireturn (by decide +kernel)
def f_X12_firm (a0 : Nat) (a1 : Int32) (a2 : Int32) (μ : gm_M) : Option (Option Value × gm_M) := if gm_tag μ a0 = 17 then gm_bI (f_X12_isChild a0 a1 μ) (fun x2 m1 => if x2 = 0 then some (some (.int (-1 : Int32)), m1) else gm_bI (f_X12_in a2 (0 : Int32) (1 : Int32) m1) (fun x4 m3 => if x4 ≠ 0 then gm_gR m3 [17] a0 1 (fun v5 => gm_aI m3 v5 ((38 : Int32) + a1) (fun v6 => if gm_tag m3 a0 = 17 then gm_bV (f_X12_keeps a0 m3) (fun m7 => gm_loop (fun (s9 : Int32 × Int32 × Int32 × gm_M) => if s9.2.2.1 < 0 then gm_gR s9.2.2.2 [17] a0 1 (fun v10 => gm_sI s9.2.2.2 v10 ((38 : Int32) + a1) v6 (fun m11 => if a2 ≠ 0 then some (Sum.inr (some (.int s9.2.1), m11)) else some (Sum.inr (some (.int s9.1), m11)))) else gm_gR s9.2.2.2 [17] a0 1 (fun v12 => gm_sI s9.2.2.2 v12 ((38 : Int32) + a1) s9.2.2.1 (fun m13 => if gm_tag m13 a0 = 17 then gm_bI (f_X12_areAsSeen a0 m13) (fun x15 m14 => gm_j (fun (s16 : Int32) => gm_j (fun (s18 : Int32) => some (Sum.inl ((s9.1 + s16), s18, (s9.2.2.1 + (-1 : Int32)), m14))) (fun j19 => if x15 = 0 then j19 s9.2.1 else j19 s9.2.2.1)) (fun j17 => if x15 = 0 then j17 (0 : Int32) else j17 (1 : Int32))) else none))) 5000 ((0 : Int32), (-5 : Int32), (9 : Int32), m7)) else none)) else some (some (.int (-1 : Int32)), m3))) else none
set_option maxHeartbeats 4000000 in
theorem c_X12_firm (a0 : Nat) (a1 : Int32) (a2 : Int32) (μ : gm_M) : gm_Call ({ cls := "GumBubbleModel", name := "firm", desc := "(II)I" } : Jvm.MethodName) prog_14_method_70_code 8 (some .int) 6 0 0 [.ref a0, .int a1, .int a2] μ (f_X12_firm a0 a1 a2 μ) := by
  refine gm_start PN_12 (Nat.le_of_ble_eq_true rfl) (fun res μe => ?_)
  unfold f_X12_firm
  show gm_A "GumBubbleModel" (gm_nm "firm") _ _ _ _ _ _ _ _ _ 0 [(0, .ref a0), (1, .int a1), (2, .int a2)] [] _ _
  refine gm_aload_n d_X12_firm_0 rfl 0 rfl ?_
  refine gm_iload_n d_X12_firm_1 rfl 1 rfl ?_
  refine gm_grd (fun g2 => ?_)
  refine gm_callV (k0 := 12) [.int a1] (c_X12_isChild a0 a1 μ) g2 rfl B_X12_isChild gw_1047 gs_40 rfl rfl rfl d_X12_firm_2 (gm_kI (fun x2 m1 => ?_))
  refine gm_if_eq (tgt := 17) d_X12_firm_5 (by decide) (fun h5 => ?_) (fun h5 => ?_)
  ·
    refine gm_iconst (v := -1) d_X12_firm_17 (by decide) ?_
    exact gm_iret rfl d_X12_firm_18 (Nat.le_of_ble_eq_true rfl) (Nat.le_of_ble_eq_true rfl) (fun h => h)
  ·
    refine gm_iload_n d_X12_firm_8 rfl 2 rfl ?_
    refine gm_iconst (v := 0) d_X12_firm_9 (by decide) ?_
    refine gm_iconst (v := 1) d_X12_firm_10 (by decide) ?_
    refine gm_callS [.int a2, .int (0 : Int32), .int (1 : Int32)] (c_X12_in a2 (0 : Int32) (1 : Int32) m1) B_X12_in gw_964 rfl rfl rfl d_X12_firm_11 (gm_kI (fun x4 m3 => ?_))
    refine gm_if_ne (tgt := 19) d_X12_firm_14 (by decide) (fun h14 => ?_) (fun h14 => ?_)
    ·
      refine gm_aload_n d_X12_firm_19 rfl 0 rfl ?_
      refine gm_getR F_12_s gw_890 d_X12_firm_20 (fun v5 _ => ?_)
      refine gm_bipush (v := 38) d_X12_firm_23 (by decide) ?_
      refine gm_iload_n d_X12_firm_25 rfl 1 rfl ?_
      refine gm_iadd d_X12_firm_26 ?_
      refine gm_iald d_X12_firm_27 (fun v6 _ => ?_)
      refine gm_istore_n (L' := [(3, .int v6), (0, .ref a0), (1, .int a1), (2, .int a2)]) d_X12_firm_28 rfl (Nat.le_of_ble_eq_true rfl) rfl ?_
      refine gm_iconst (v := 0) d_X12_firm_29 (by decide) ?_
      refine gm_istore (L' := [(4, .int (0 : Int32)), (3, .int v6), (0, .ref a0), (1, .int a1), (2, .int a2)]) d_X12_firm_30 (Nat.le_of_ble_eq_true rfl) rfl ?_
      refine gm_bipush (v := -5) d_X12_firm_32 (by decide) ?_
      refine gm_istore (L' := [(5, .int (-5 : Int32)), (4, .int (0 : Int32)), (3, .int v6), (0, .ref a0), (1, .int a1), (2, .int a2)]) d_X12_firm_34 (Nat.le_of_ble_eq_true rfl) rfl ?_
      refine gm_aload_n d_X12_firm_36 rfl 3 rfl ?_
      refine gm_grd (fun g37 => ?_)
      refine gm_callV (k0 := 12) [] (c_X12_keeps a0 m3) g37 rfl B_X12_keeps gw_1126 gs_52 rfl rfl rfl d_X12_firm_37 (gm_kV (fun m7 => ?_))
      refine gm_bipush (v := 9) d_X12_firm_40 (by decide) ?_
      refine gm_istore (L' := [(6, .int (9 : Int32)), (5, .int (-5 : Int32)), (4, .int (0 : Int32)), (3, .int v6), (0, .ref a0), (1, .int a1), (2, .int a2)]) d_X12_firm_42 (Nat.le_of_ble_eq_true rfl) rfl ?_
      refine gm_sub (L' := [(0, .ref a0), (1, .int a1), (2, .int a2), (3, .int v6), (4, .int (0 : Int32)), (5, .int (-5 : Int32)), (6, .int (9 : Int32))]) [4, 5, 6, 3, 2, 1, 0] rfl ?_
      refine gm_lp (S := Int32 × Int32 × Int32 × gm_M) (fun _ => 0) (fun _ => 0) (fun s9 => s9.2.2.2) (fun s9 => [(0, .ref a0), (1, .int a1), (2, .int a2), (3, .int v6), (4, .int s9.1), (5, .int s9.2.1), (6, .int s9.2.2.1)]) (fun _ => []) (fun s9 => ?_) 5000 ((0 : Int32), (-5 : Int32), (9 : Int32), m7)
      refine gm_iload d_X12_firm_44 6 rfl ?_
      refine gm_if_lt (tgt := 101) d_X12_firm_46 (by decide) (fun h46 => ?_) (fun h46 => ?_)
      ·
        refine gm_aload_n d_X12_firm_101 rfl 0 rfl ?_
        refine gm_getR F_12_s gw_890 d_X12_firm_102 (fun v10 _ => ?_)
        refine gm_bipush (v := 38) d_X12_firm_105 (by decide) ?_
        refine gm_iload_n d_X12_firm_107 rfl 1 rfl ?_
        refine gm_iadd d_X12_firm_108 ?_
        refine gm_iload_n d_X12_firm_109 rfl 3 rfl ?_
        refine gm_iast d_X12_firm_110 (fun m11 _ => ?_)
        refine gm_iload_n d_X12_firm_111 rfl 2 rfl ?_
        refine gm_if_ne (tgt := 120) d_X12_firm_112 (by decide) (fun h112 => ?_) (fun h112 => ?_)
        ·
          refine gm_iload d_X12_firm_120 5 rfl ?_
          exact gm_iret rfl d_X12_firm_122 (Nat.le_of_ble_eq_true rfl) (Nat.le_of_ble_eq_true rfl) (fun h => h)
        ·
          refine gm_iload d_X12_firm_115 4 rfl ?_
          refine gm_goto (tgt := 122) d_X12_firm_117 (by decide) ?_
          exact gm_iret rfl d_X12_firm_122 (Nat.le_of_ble_eq_true rfl) (Nat.le_of_ble_eq_true rfl) (fun h => h)
      ·
        refine gm_aload_n d_X12_firm_49 rfl 0 rfl ?_
        refine gm_getR F_12_s gw_890 d_X12_firm_50 (fun v12 _ => ?_)
        refine gm_bipush (v := 38) d_X12_firm_53 (by decide) ?_
        refine gm_iload_n d_X12_firm_55 rfl 1 rfl ?_
        refine gm_iadd d_X12_firm_56 ?_
        refine gm_iload d_X12_firm_57 6 rfl ?_
        refine gm_iast d_X12_firm_59 (fun m13 _ => ?_)
        refine gm_aload_n d_X12_firm_60 rfl 0 rfl ?_
        refine gm_grd (fun g61 => ?_)
        refine gm_callV (k0 := 12) [] (c_X12_areAsSeen a0 m13) g61 rfl B_X12_areAsSeen gw_1230 gs_60 rfl rfl rfl d_X12_firm_61 (gm_kI (fun x15 m14 => ?_))
        refine gm_istore (L' := [(7, .int x15), (0, .ref a0), (1, .int a1), (2, .int a2), (3, .int v6), (4, .int s9.1), (5, .int s9.2.1), (6, .int s9.2.2.1)]) d_X12_firm_64 (Nat.le_of_ble_eq_true rfl) rfl ?_
        refine gm_iload d_X12_firm_66 5 rfl ?_
        refine gm_iload d_X12_firm_68 0 rfl ?_
        refine gm_join (S := Int32) (pj := 78) (kj := 0) (nj := 0) (fun s16 => m14) (fun s16 => [(0, .ref a0), (1, .int a1), (2, .int a2), (3, .int v6), (4, .int s9.1), (5, .int s9.2.1), (6, .int s9.2.2.1), (7, .int x15)]) (fun s16 => [.int s16, .int s9.1]) (fun s16 => ?_) (fun j17 hj17 => ?_)
        ·
          refine gm_iadd d_X12_firm_78 ?_
          refine gm_istore (L' := [(4, .int (s9.1 + s16)), (0, .ref a0), (1, .int a1), (2, .int a2), (3, .int v6), (5, .int s9.2.1), (6, .int s9.2.2.1), (7, .int x15)]) d_X12_firm_79 (Nat.le_of_ble_eq_true rfl) rfl ?_
          refine gm_iload d_X12_firm_81 7 rfl ?_
          refine gm_join (S := Int32) (pj := 93) (kj := 0) (nj := 0) (fun s18 => m14) (fun s18 => [(0, .ref a0), (1, .int a1), (2, .int a2), (3, .int v6), (4, .int (s9.1 + s16)), (5, .int s9.2.1), (6, .int s9.2.2.1), (7, .int x15)]) (fun s18 => [.int s18]) (fun s18 => ?_) (fun j19 hj19 => ?_)
          ·
            refine gm_istore (L' := [(5, .int s18), (0, .ref a0), (1, .int a1), (2, .int a2), (3, .int v6), (4, .int (s9.1 + s16)), (6, .int s9.2.2.1), (7, .int x15)]) d_X12_firm_93 (Nat.le_of_ble_eq_true rfl) rfl ?_
            refine gm_iinc (v := s9.2.2.1 + (-1 : Int32)) (L' := [(6, .int (s9.2.2.1 + (-1 : Int32))), (5, .int s18), (0, .ref a0), (1, .int a1), (2, .int a2), (3, .int v6), (4, .int (s9.1 + s16)), (7, .int x15)]) d_X12_firm_95 6 rfl rfl (Nat.le_of_ble_eq_true rfl) rfl ?_
            refine gm_goto (tgt := 44) d_X12_firm_98 (by decide) ?_
            refine gm_sub (L' := [(0, .ref a0), (1, .int a1), (2, .int a2), (3, .int v6), (4, .int (s9.1 + s16)), (5, .int s18), (6, .int (s9.2.2.1 + (-1 : Int32)))]) [2, 3, 4, 5, 6, 1, 0] rfl ?_
            exact gm_back (fun h => h)
          ·
            refine gm_if_eq (tgt := 91) d_X12_firm_83 (by decide) (fun h83 => ?_) (fun h83 => ?_)
            ·
              refine gm_iload d_X12_firm_91 5 rfl ?_
              refine gm_sub (L' := [(0, .ref a0), (1, .int a1), (2, .int a2), (3, .int v6), (4, .int (s9.1 + s16)), (5, .int s9.2.1), (6, .int s9.2.2.1), (7, .int x15)]) [1, 2, 3, 4, 0, 5, 6, 7] rfl ?_
              exact hj19 s9.2.1
            ·
              refine gm_iload d_X12_firm_86 6 rfl ?_
              refine gm_goto (tgt := 93) d_X12_firm_88 (by decide) ?_
              refine gm_sub (L' := [(0, .ref a0), (1, .int a1), (2, .int a2), (3, .int v6), (4, .int (s9.1 + s16)), (5, .int s9.2.1), (6, .int s9.2.2.1), (7, .int x15)]) [1, 2, 3, 4, 0, 5, 6, 7] rfl ?_
              exact hj19 s9.2.2.1
        ·
          refine gm_if_eq (tgt := 77) d_X12_firm_70 (by decide) (fun h70 => ?_) (fun h70 => ?_)
          ·
            refine gm_iconst (v := 0) d_X12_firm_77 (by decide) ?_
            refine gm_sub (L' := [(0, .ref a0), (1, .int a1), (2, .int a2), (3, .int v6), (4, .int s9.1), (5, .int s9.2.1), (6, .int s9.2.2.1), (7, .int x15)]) [1, 2, 3, 4, 5, 6, 7, 0] rfl ?_
            exact hj17 (0 : Int32)
          ·
            refine gm_iconst (v := 1) d_X12_firm_73 (by decide) ?_
            refine gm_goto (tgt := 78) d_X12_firm_74 (by decide) ?_
            refine gm_sub (L' := [(0, .ref a0), (1, .int a1), (2, .int a2), (3, .int v6), (4, .int s9.1), (5, .int s9.2.1), (6, .int s9.2.2.1), (7, .int x15)]) [1, 2, 3, 4, 5, 6, 7, 0] rfl ?_
            exact hj17 (1 : Int32)
    ·
      refine gm_iconst (v := -1) d_X12_firm_17 (by decide) ?_
      exact gm_iret rfl d_X12_firm_18 (Nat.le_of_ble_eq_true rfl) (Nat.le_of_ble_eq_true rfl) (fun h => h)
theorem d_X12_first_0 : decode prog_14_method_58_code 0 = .ok (.bipush (-5), 2) := ge_bipush (by decide +kernel)
theorem d_X12_first_2 : decode prog_14_method_58_code 2 = .ok (.istore_n 1, 1) := ge_istore_n_1 (by decide +kernel)
theorem d_X12_first_3 : decode prog_14_method_58_code 3 = .ok (.iconst (-1), 1) := ge_iconst_m1_ (by decide +kernel)
theorem d_X12_first_4 : decode prog_14_method_58_code 4 = .ok (.istore_n 2, 1) := ge_istore_n_2 (by decide +kernel)
theorem d_X12_first_5 : decode prog_14_method_58_code 5 = .ok (.iconst 0, 1) := ge_iconst_0 (by decide +kernel)
theorem d_X12_first_6 : decode prog_14_method_58_code 6 = .ok (.istore_n 3, 1) := ge_istore_n_3 (by decide +kernel)
theorem d_X12_first_7 : decode prog_14_method_58_code 7 = .ok (.iload_n 3, 1) := ge_iload_n_3 (by decide +kernel)
theorem d_X12_first_8 : decode prog_14_method_58_code 8 = .ok (.aload_n 0, 1) := ge_aload_n_0 (by decide +kernel)
theorem d_X12_first_9 : decode prog_14_method_58_code 9 = .ok (.getfield 9, 3) := ge_getfield (by decide +kernel)
theorem d_X12_first_12 : decode prog_14_method_58_code 12 = .ok (.bipush 26, 2) := ge_bipush (by decide +kernel)
theorem d_X12_first_14 : decode prog_14_method_58_code 14 = .ok (.iaload, 1) := ge_iaload (by decide +kernel)
theorem d_X12_first_15 : decode prog_14_method_58_code 15 = .ok (.if_icmp .ge 41, 3) := ge_if_icmp_ge (by decide +kernel)
theorem d_X12_first_18 : decode prog_14_method_58_code 18 = .ok (.aload_n 0, 1) := ge_aload_n_0 (by decide +kernel)
theorem d_X12_first_19 : decode prog_14_method_58_code 19 = .ok (.iload_n 3, 1) := ge_iload_n_3 (by decide +kernel)
theorem d_X12_first_20 : decode prog_14_method_58_code 20 = .ok (.invokevirtual 148, 3) := ge_invokevirtual (by decide +kernel)
theorem d_X12_first_23 : decode prog_14_method_58_code 23 = .ok (.istore 4, 2) := ge_istore (by decide +kernel)
theorem d_X12_first_25 : decode prog_14_method_58_code 25 = .ok (.iload 4, 2) := ge_iload (by decide +kernel)
theorem d_X12_first_27 : decode prog_14_method_58_code 27 = .ok (.iload_n 2, 1) := ge_iload_n_2 (by decide +kernel)
theorem d_X12_first_28 : decode prog_14_method_58_code 28 = .ok (.if_icmp .le 7, 3) := ge_if_icmp_le (by decide +kernel)
theorem d_X12_first_31 : decode prog_14_method_58_code 31 = .ok (.iload_n 3, 1) := ge_iload_n_3 (by decide +kernel)
theorem d_X12_first_32 : decode prog_14_method_58_code 32 = .ok (.goto 4, 3) := ge_goto (by decide +kernel)
theorem d_X12_first_35 : decode prog_14_method_58_code 35 = .ok (.iload_n 1, 1) := ge_iload_n_1 (by decide +kernel)
theorem d_X12_first_36 : decode prog_14_method_58_code 36 = .ok (.istore_n 1, 1) := ge_istore_n_1 (by decide +kernel)
theorem d_X12_first_37 : decode prog_14_method_58_code 37 = .ok (.iload 4, 2) := ge_iload (by decide +kernel)
theorem d_X12_first_39 : decode prog_14_method_58_code 39 = .ok (.iload_n 2, 1) := ge_iload_n_2 (by decide +kernel)
theorem d_X12_first_40 : decode prog_14_method_58_code 40 = .ok (.if_icmp .le 8, 3) := ge_if_icmp_le (by decide +kernel)
theorem d_X12_first_43 : decode prog_14_method_58_code 43 = .ok (.iload 4, 2) := ge_iload (by decide +kernel)
theorem d_X12_first_45 : decode prog_14_method_58_code 45 = .ok (.goto 4, 3) := ge_goto (by decide +kernel)
theorem d_X12_first_48 : decode prog_14_method_58_code 48 = .ok (.iload_n 2, 1) := ge_iload_n_2 (by decide +kernel)
theorem d_X12_first_49 : decode prog_14_method_58_code 49 = .ok (.istore_n 2, 1) := ge_istore_n_2 (by decide +kernel)
theorem d_X12_first_50 : decode prog_14_method_58_code 50 = .ok (.iinc 3 1, 3) := ge_iinc (by decide +kernel)
theorem d_X12_first_53 : decode prog_14_method_58_code 53 = .ok (.goto (-46), 3) := ge_goto (by decide +kernel)
theorem d_X12_first_56 : decode prog_14_method_58_code 56 = .ok (.iload_n 1, 1) := ge_iload_n_1 (by decide +kernel)
theorem d_X12_first_57 : decode prog_14_method_58_code 57 = .ok (.ireturn, 1) := ge_ireturn (by decide +kernel)
def f_X12_first (a0 : Nat) (μ : gm_M) : Option (Option Value × gm_M) := gm_loop (fun (s1 : Int32 × Int32 × Int32 × gm_M) => gm_gR s1.2.2.2 [17] a0 1 (fun v2 => gm_aI s1.2.2.2 v2 (26 : Int32) (fun v3 => if v3 ≤ s1.2.2.1 then some (Sum.inr (some (.int s1.1), s1.2.2.2)) else if gm_tag s1.2.2.2 a0 = 17 then gm_bI (f_X12_holdsOf a0 s1.2.2.1 s1.2.2.2) (fun x5 m4 => gm_j (fun (s6 : Int32) => gm_j (fun (s8 : Int32) => some (Sum.inl (s6, s8, (s1.2.2.1 + (1 : Int32)), m4))) (fun j9 => if x5 ≤ s1.2.1 then j9 s1.2.1 else j9 x5)) (fun j7 => if x5 ≤ s1.2.1 then j7 s1.1 else j7 s1.2.2.1)) else none))) 5000 ((-5 : Int32), (-1 : Int32), (0 : Int32), μ)
set_option maxHeartbeats 4000000 in
theorem c_X12_first (a0 : Nat) (μ : gm_M) : gm_Call ({ cls := "GumBubbleModel", name := "first", desc := "()I" } : Jvm.MethodName) prog_14_method_58_code 5 (some .int) 4 0 0 [.ref a0] μ (f_X12_first a0 μ) := by
  refine gm_start PN_12 (Nat.le_of_ble_eq_true rfl) (fun res μe => ?_)
  unfold f_X12_first
  show gm_A "GumBubbleModel" (gm_nm "first") _ _ _ _ _ _ _ _ _ 0 [(0, .ref a0)] [] _ _
  refine gm_bipush (v := -5) d_X12_first_0 (by decide) ?_
  refine gm_istore_n (L' := [(1, .int (-5 : Int32)), (0, .ref a0)]) d_X12_first_2 rfl (Nat.le_of_ble_eq_true rfl) rfl ?_
  refine gm_iconst (v := -1) d_X12_first_3 (by decide) ?_
  refine gm_istore_n (L' := [(2, .int (-1 : Int32)), (1, .int (-5 : Int32)), (0, .ref a0)]) d_X12_first_4 rfl (Nat.le_of_ble_eq_true rfl) rfl ?_
  refine gm_iconst (v := 0) d_X12_first_5 (by decide) ?_
  refine gm_istore_n (L' := [(3, .int (0 : Int32)), (2, .int (-1 : Int32)), (1, .int (-5 : Int32)), (0, .ref a0)]) d_X12_first_6 rfl (Nat.le_of_ble_eq_true rfl) rfl ?_
  refine gm_sub (L' := [(0, .ref a0), (1, .int (-5 : Int32)), (2, .int (-1 : Int32)), (3, .int (0 : Int32))]) [3, 2, 1, 0] rfl ?_
  refine gm_lp (S := Int32 × Int32 × Int32 × gm_M) (fun _ => 0) (fun _ => 0) (fun s1 => s1.2.2.2) (fun s1 => [(0, .ref a0), (1, .int s1.1), (2, .int s1.2.1), (3, .int s1.2.2.1)]) (fun _ => []) (fun s1 => ?_) 5000 ((-5 : Int32), (-1 : Int32), (0 : Int32), μ)
  refine gm_iload_n d_X12_first_7 rfl 3 rfl ?_
  refine gm_aload_n d_X12_first_8 rfl 0 rfl ?_
  refine gm_getR F_12_s gw_890 d_X12_first_9 (fun v2 _ => ?_)
  refine gm_bipush (v := 26) d_X12_first_12 (by decide) ?_
  refine gm_iald d_X12_first_14 (fun v3 _ => ?_)
  refine gm_icmp_ge (tgt := 56) d_X12_first_15 (by decide) (fun h15 => ?_) (fun h15 => ?_)
  ·
    refine gm_iload_n d_X12_first_56 rfl 1 rfl ?_
    exact gm_iret rfl d_X12_first_57 (Nat.le_of_ble_eq_true rfl) (Nat.le_of_ble_eq_true rfl) (fun h => h)
  ·
    refine gm_aload_n d_X12_first_18 rfl 0 rfl ?_
    refine gm_iload_n d_X12_first_19 rfl 3 rfl ?_
    refine gm_grd (fun g20 => ?_)
    refine gm_callV (k0 := 12) [.int s1.2.2.1] (c_X12_holdsOf a0 s1.2.2.1 s1.2.2.2) g20 rfl B_X12_holdsOf gw_1074 gs_45 rfl rfl rfl d_X12_first_20 (gm_kI (fun x5 m4 => ?_))
    refine gm_istore (L' := [(4, .int x5), (0, .ref a0), (1, .int s1.1), (2, .int s1.2.1), (3, .int s1.2.2.1)]) d_X12_first_23 (Nat.le_of_ble_eq_true rfl) rfl ?_
    refine gm_iload d_X12_first_25 0 rfl ?_
    refine gm_iload_n d_X12_first_27 rfl 3 rfl ?_
    refine gm_join (S := Int32) (pj := 36) (kj := 0) (nj := 0) (fun s6 => m4) (fun s6 => [(0, .ref a0), (1, .int s1.1), (2, .int s1.2.1), (3, .int s1.2.2.1), (4, .int x5)]) (fun s6 => [.int s6]) (fun s6 => ?_) (fun j7 hj7 => ?_)
    ·
      refine gm_istore_n (L' := [(1, .int s6), (0, .ref a0), (2, .int s1.2.1), (3, .int s1.2.2.1), (4, .int x5)]) d_X12_first_36 rfl (Nat.le_of_ble_eq_true rfl) rfl ?_
      refine gm_iload d_X12_first_37 4 rfl ?_
      refine gm_iload_n d_X12_first_39 rfl 2 rfl ?_
      refine gm_join (S := Int32) (pj := 49) (kj := 0) (nj := 0) (fun s8 => m4) (fun s8 => [(0, .ref a0), (1, .int s6), (2, .int s1.2.1), (3, .int s1.2.2.1), (4, .int x5)]) (fun s8 => [.int s8]) (fun s8 => ?_) (fun j9 hj9 => ?_)
      ·
        refine gm_istore_n (L' := [(2, .int s8), (0, .ref a0), (1, .int s6), (3, .int s1.2.2.1), (4, .int x5)]) d_X12_first_49 rfl (Nat.le_of_ble_eq_true rfl) rfl ?_
        refine gm_iinc (v := s1.2.2.1 + (1 : Int32)) (L' := [(3, .int (s1.2.2.1 + (1 : Int32))), (2, .int s8), (0, .ref a0), (1, .int s6), (4, .int x5)]) d_X12_first_50 3 rfl rfl (Nat.le_of_ble_eq_true rfl) rfl ?_
        refine gm_goto (tgt := 7) d_X12_first_53 (by decide) ?_
        refine gm_sub (L' := [(0, .ref a0), (1, .int s6), (2, .int s8), (3, .int (s1.2.2.1 + (1 : Int32)))]) [2, 3, 1, 0] rfl ?_
        exact gm_back (fun h => h)
      ·
        refine gm_icmp_le (tgt := 48) d_X12_first_40 (by decide) (fun h40 => ?_) (fun h40 => ?_)
        ·
          refine gm_iload_n d_X12_first_48 rfl 2 rfl ?_
          refine gm_sub (L' := [(0, .ref a0), (1, .int s6), (2, .int s1.2.1), (3, .int s1.2.2.1), (4, .int x5)]) [1, 0, 2, 3, 4] rfl ?_
          exact hj9 s1.2.1
        ·
          refine gm_iload d_X12_first_43 4 rfl ?_
          refine gm_goto (tgt := 49) d_X12_first_45 (by decide) ?_
          refine gm_sub (L' := [(0, .ref a0), (1, .int s6), (2, .int s1.2.1), (3, .int s1.2.2.1), (4, .int x5)]) [1, 0, 2, 3, 4] rfl ?_
          exact hj9 x5
    ·
      refine gm_icmp_le (tgt := 35) d_X12_first_28 (by decide) (fun h28 => ?_) (fun h28 => ?_)
      ·
        refine gm_iload_n d_X12_first_35 rfl 2 rfl ?_
        refine gm_sub (L' := [(0, .ref a0), (1, .int s1.1), (2, .int s1.2.1), (3, .int s1.2.2.1), (4, .int x5)]) [1, 2, 3, 4, 0] rfl ?_
        exact hj7 s1.1
      ·
        refine gm_iload_n d_X12_first_31 rfl 4 rfl ?_
        refine gm_goto (tgt := 36) d_X12_first_32 (by decide) ?_
        refine gm_sub (L' := [(0, .ref a0), (1, .int s1.1), (2, .int s1.2.1), (3, .int s1.2.2.1), (4, .int x5)]) [1, 2, 3, 4, 0] rfl ?_
        exact hj7 s1.2.2.1
theorem d_X12_goesAlone_0 : decode prog_14_method_43_code 0 = .ok (.aload_n 0, 1) := ge_aload_n_0 (by decide +kernel)
theorem d_X12_goesAlone_1 : decode prog_14_method_43_code 1 = .ok (.iload_n 1, 1) := ge_iload_n_1 (by decide +kernel)
theorem d_X12_goesAlone_2 : decode prog_14_method_43_code 2 = .ok (.invokevirtual 174, 3) := ge_invokevirtual (by decide +kernel)
theorem d_X12_goesAlone_5 : decode prog_14_method_43_code 5 = .ok (.aload_n 0, 1) := ge_aload_n_0 (by decide +kernel)
theorem d_X12_goesAlone_6 : decode prog_14_method_43_code 6 = .ok (.getfield 9, 3) := ge_getfield (by decide +kernel)
theorem d_X12_goesAlone_9 : decode prog_14_method_43_code 9 = .ok (.iconst 0, 1) := ge_iconst_0 (by decide +kernel)
theorem d_X12_goesAlone_10 : decode prog_14_method_43_code 10 = .ok (.dup2, 1) := ge_dup2 (by decide +kernel)
theorem d_X12_goesAlone_11 : decode prog_14_method_43_code 11 = .ok (.iaload, 1) := ge_iaload (by decide +kernel)
theorem d_X12_goesAlone_12 : decode prog_14_method_43_code 12 = .ok (.iconst 1, 1) := ge_iconst_1 (by decide +kernel)
theorem d_X12_goesAlone_13 : decode prog_14_method_43_code 13 = .ok (.iadd, 1) := ge_iadd (by decide +kernel)
theorem d_X12_goesAlone_14 : decode prog_14_method_43_code 14 = .ok (.iastore, 1) := ge_iastore (by decide +kernel)
theorem d_X12_goesAlone_15 : decode prog_14_method_43_code 15 = .ok (.return_, 1) := ge_return_ (by decide +kernel)
def f_X12_goesAlone (a0 : Nat) (a1 : Int32) (μ : gm_M) : Option (Option Value × gm_M) := if gm_tag μ a0 = 17 then gm_bV (f_X12_goesFor a0 a1 μ) (fun m1 => gm_gR m1 [17] a0 1 (fun v3 => gm_aI m1 v3 (0 : Int32) (fun v4 => gm_sI m1 v3 (0 : Int32) (v4 + (1 : Int32)) (fun m5 => some (none, m5))))) else none
set_option maxHeartbeats 4000000 in
theorem c_X12_goesAlone (a0 : Nat) (a1 : Int32) (μ : gm_M) : gm_Call ({ cls := "GumBubbleModel", name := "goesAlone", desc := "(I)V" } : Jvm.MethodName) prog_14_method_43_code 2 none 3 0 0 [.ref a0, .int a1] μ (f_X12_goesAlone a0 a1 μ) := by
  refine gm_start PN_12 (Nat.le_of_ble_eq_true rfl) (fun res μe => ?_)
  unfold f_X12_goesAlone
  show gm_A "GumBubbleModel" (gm_nm "goesAlone") _ _ _ _ _ _ _ _ _ 0 [(0, .ref a0), (1, .int a1)] [] _ _
  refine gm_aload_n d_X12_goesAlone_0 rfl 0 rfl ?_
  refine gm_iload_n d_X12_goesAlone_1 rfl 1 rfl ?_
  refine gm_grd (fun g2 => ?_)
  refine gm_callV (k0 := 12) [.int a1] (c_X12_goesFor a0 a1 μ) g2 rfl B_X12_goesFor gw_1118 gs_51 rfl rfl rfl d_X12_goesAlone_2 (gm_kV (fun m1 => ?_))
  refine gm_aload_n d_X12_goesAlone_5 rfl 0 rfl ?_
  refine gm_getR F_12_s gw_890 d_X12_goesAlone_6 (fun v3 _ => ?_)
  refine gm_iconst (v := 0) d_X12_goesAlone_9 (by decide) ?_
  refine gm_dup2 d_X12_goesAlone_10 rfl rfl ?_
  refine gm_iald d_X12_goesAlone_11 (fun v4 _ => ?_)
  refine gm_iconst (v := 1) d_X12_goesAlone_12 (by decide) ?_
  refine gm_iadd d_X12_goesAlone_13 ?_
  refine gm_iast d_X12_goesAlone_14 (fun m5 _ => ?_)
  exact gm_vret rfl d_X12_goesAlone_15 (Nat.le_of_ble_eq_true rfl) (Nat.le_of_ble_eq_true rfl) (fun h => h)
theorem d_X12_goesOn_0 : decode prog_14_method_42_code 0 = .ok (.iconst 0, 1) := ge_iconst_0 (by decide +kernel)
theorem d_X12_goesOn_1 : decode prog_14_method_42_code 1 = .ok (.istore_n 2, 1) := ge_istore_n_2 (by decide +kernel)
theorem d_X12_goesOn_2 : decode prog_14_method_42_code 2 = .ok (.iload_n 2, 1) := ge_iload_n_2 (by decide +kernel)
theorem d_X12_goesOn_3 : decode prog_14_method_42_code 3 = .ok (.iload_n 1, 1) := ge_iload_n_1 (by decide +kernel)
theorem d_X12_goesOn_4 : decode prog_14_method_42_code 4 = .ok (.if_icmp .ge 13, 3) := ge_if_icmp_ge (by decide +kernel)
theorem d_X12_goesOn_7 : decode prog_14_method_42_code 7 = .ok (.aload_n 0, 1) := ge_aload_n_0 (by decide +kernel)
theorem d_X12_goesOn_8 : decode prog_14_method_42_code 8 = .ok (.invokevirtual 177, 3) := ge_invokevirtual (by decide +kernel)
theorem d_X12_goesOn_11 : decode prog_14_method_42_code 11 = .ok (.iinc 2 1, 3) := ge_iinc (by decide +kernel)
theorem d_X12_goesOn_14 : decode prog_14_method_42_code 14 = .ok (.goto (-12), 3) := ge_goto (by decide +kernel)
theorem d_X12_goesOn_17 : decode prog_14_method_42_code 17 = .ok (.return_, 1) := ge_return_ (by decide +kernel)
def f_X12_goesOn (a0 : Nat) (a1 : Int32) (μ : gm_M) : Option (Option Value × gm_M) := gm_loop (fun (s1 : Int32 × gm_M) => if a1 ≤ s1.1 then some (Sum.inr (none, s1.2)) else if gm_tag s1.2 a0 = 17 then gm_bV (f_X12_goes a0 s1.2) (fun m2 => some (Sum.inl ((s1.1 + (1 : Int32)), m2))) else none) 5000 ((0 : Int32), μ)
set_option maxHeartbeats 4000000 in
theorem c_X12_goesOn (a0 : Nat) (a1 : Int32) (μ : gm_M) : gm_Call ({ cls := "GumBubbleModel", name := "goesOn", desc := "(I)V" } : Jvm.MethodName) prog_14_method_42_code 3 none 4 0 0 [.ref a0, .int a1] μ (f_X12_goesOn a0 a1 μ) := by
  refine gm_start PN_12 (Nat.le_of_ble_eq_true rfl) (fun res μe => ?_)
  unfold f_X12_goesOn
  show gm_A "GumBubbleModel" (gm_nm "goesOn") _ _ _ _ _ _ _ _ _ 0 [(0, .ref a0), (1, .int a1)] [] _ _
  refine gm_iconst (v := 0) d_X12_goesOn_0 (by decide) ?_
  refine gm_istore_n (L' := [(2, .int (0 : Int32)), (0, .ref a0), (1, .int a1)]) d_X12_goesOn_1 rfl (Nat.le_of_ble_eq_true rfl) rfl ?_
  refine gm_sub (L' := [(0, .ref a0), (1, .int a1), (2, .int (0 : Int32))]) [1, 2, 0] rfl ?_
  refine gm_lp (S := Int32 × gm_M) (fun _ => 0) (fun _ => 0) (fun s1 => s1.2) (fun s1 => [(0, .ref a0), (1, .int a1), (2, .int s1.1)]) (fun _ => []) (fun s1 => ?_) 5000 ((0 : Int32), μ)
  refine gm_iload_n d_X12_goesOn_2 rfl 2 rfl ?_
  refine gm_iload_n d_X12_goesOn_3 rfl 1 rfl ?_
  refine gm_icmp_ge (tgt := 17) d_X12_goesOn_4 (by decide) (fun h4 => ?_) (fun h4 => ?_)
  ·
    exact gm_vret rfl d_X12_goesOn_17 (Nat.le_of_ble_eq_true rfl) (Nat.le_of_ble_eq_true rfl) (fun h => h)
  ·
    refine gm_aload_n d_X12_goesOn_7 rfl 0 rfl ?_
    refine gm_grd (fun g8 => ?_)
    refine gm_callV (k0 := 12) [] (c_X12_goes a0 s1.2) g8 rfl B_X12_goes gw_1114 gs_50 rfl rfl rfl d_X12_goesOn_8 (gm_kV (fun m2 => ?_))
    refine gm_iinc (v := s1.1 + (1 : Int32)) (L' := [(2, .int (s1.1 + (1 : Int32))), (0, .ref a0), (1, .int a1)]) d_X12_goesOn_11 2 rfl rfl (Nat.le_of_ble_eq_true rfl) rfl ?_
    refine gm_goto (tgt := 2) d_X12_goesOn_14 (by decide) ?_
    refine gm_sub (L' := [(0, .ref a0), (1, .int a1), (2, .int (s1.1 + (1 : Int32)))]) [1, 2, 0] rfl ?_
    exact gm_back (fun h => h)
theorem d_X12_had_0 : decode prog_14_method_71_code 0 = .ok (.aload_n 0, 1) := ge_aload_n_0 (by decide +kernel)
theorem d_X12_had_1 : decode prog_14_method_71_code 1 = .ok (.iload_n 1, 1) := ge_iload_n_1 (by decide +kernel)
theorem d_X12_had_2 : decode prog_14_method_71_code 2 = .ok (.invokevirtual 154, 3) := ge_invokevirtual (by decide +kernel)
theorem d_X12_had_5 : decode prog_14_method_71_code 5 = .ok (.ifCond .ne 5, 3) := ge_ifCond_ne (by decide +kernel)
theorem d_X12_had_8 : decode prog_14_method_71_code 8 = .ok (.iconst (-1), 1) := ge_iconst_m1_ (by decide +kernel)
theorem d_X12_had_9 : decode prog_14_method_71_code 9 = .ok (.ireturn, 1) := ge_ireturn (by decide +kernel)
theorem d_X12_had_10 : decode prog_14_method_71_code 10 = .ok (.iconst 0, 1) := ge_iconst_0 (by decide +kernel)
theorem d_X12_had_11 : decode prog_14_method_71_code 11 = .ok (.istore_n 2, 1) := ge_istore_n_2 (by decide +kernel)
theorem d_X12_had_12 : decode prog_14_method_71_code 12 = .ok (.aload_n 0, 1) := ge_aload_n_0 (by decide +kernel)
theorem d_X12_had_13 : decode prog_14_method_71_code 13 = .ok (.invokevirtual 183, 3) := ge_invokevirtual (by decide +kernel)
theorem d_X12_had_16 : decode prog_14_method_71_code 16 = .ok (.iconst 0, 1) := ge_iconst_0 (by decide +kernel)
theorem d_X12_had_17 : decode prog_14_method_71_code 17 = .ok (.istore_n 3, 1) := ge_istore_n_3 (by decide +kernel)
theorem d_X12_had_18 : decode prog_14_method_71_code 18 = .ok (.iload_n 3, 1) := ge_iload_n_3 (by decide +kernel)
theorem d_X12_had_19 : decode prog_14_method_71_code 19 = .ok (.bipush 6, 2) := ge_bipush (by decide +kernel)
theorem d_X12_had_21 : decode prog_14_method_71_code 21 = .ok (.if_icmp .gt 35, 3) := ge_if_icmp_gt (by decide +kernel)
theorem d_X12_had_24 : decode prog_14_method_71_code 24 = .ok (.aload_n 0, 1) := ge_aload_n_0 (by decide +kernel)
theorem d_X12_had_25 : decode prog_14_method_71_code 25 = .ok (.getfield 9, 3) := ge_getfield (by decide +kernel)
theorem d_X12_had_28 : decode prog_14_method_71_code 28 = .ok (.iconst 1, 1) := ge_iconst_1 (by decide +kernel)
theorem d_X12_had_29 : decode prog_14_method_71_code 29 = .ok (.iload_n 1, 1) := ge_iload_n_1 (by decide +kernel)
theorem d_X12_had_30 : decode prog_14_method_71_code 30 = .ok (.iadd, 1) := ge_iadd (by decide +kernel)
theorem d_X12_had_31 : decode prog_14_method_71_code 31 = .ok (.iload_n 3, 1) := ge_iload_n_3 (by decide +kernel)
theorem d_X12_had_32 : decode prog_14_method_71_code 32 = .ok (.iastore, 1) := ge_iastore (by decide +kernel)
theorem d_X12_had_33 : decode prog_14_method_71_code 33 = .ok (.iload_n 2, 1) := ge_iload_n_2 (by decide +kernel)
theorem d_X12_had_34 : decode prog_14_method_71_code 34 = .ok (.aload_n 0, 1) := ge_aload_n_0 (by decide +kernel)
theorem d_X12_had_35 : decode prog_14_method_71_code 35 = .ok (.invokevirtual 237, 3) := ge_invokevirtual (by decide +kernel)
theorem d_X12_had_38 : decode prog_14_method_71_code 38 = .ok (.ifCond .eq 9, 3) := ge_ifCond_eq (by decide +kernel)
theorem d_X12_had_41 : decode prog_14_method_71_code 41 = .ok (.iconst 1, 1) := ge_iconst_1 (by decide +kernel)
theorem d_X12_had_42 : decode prog_14_method_71_code 42 = .ok (.iload_n 3, 1) := ge_iload_n_3 (by decide +kernel)
theorem d_X12_had_43 : decode prog_14_method_71_code 43 = .ok (.ishl, 1) := ge_ishl (by decide +kernel)
theorem d_X12_had_44 : decode prog_14_method_71_code 44 = .ok (.goto 4, 3) := ge_goto (by decide +kernel)
theorem d_X12_had_47 : decode prog_14_method_71_code 47 = .ok (.iconst 0, 1) := ge_iconst_0 (by decide +kernel)
theorem d_X12_had_48 : decode prog_14_method_71_code 48 = .ok (.ior, 1) := ge_ior (by decide +kernel)
theorem d_X12_had_49 : decode prog_14_method_71_code 49 = .ok (.istore_n 2, 1) := ge_istore_n_2 (by decide +kernel)
theorem d_X12_had_50 : decode prog_14_method_71_code 50 = .ok (.iinc 3 1, 3) := ge_iinc (by decide +kernel)
theorem d_X12_had_53 : decode prog_14_method_71_code 53 = .ok (.goto (-35), 3) := ge_goto (by decide +kernel)
theorem d_X12_had_56 : decode prog_14_method_71_code 56 = .ok (.iload_n 2, 1) := ge_iload_n_2 (by decide +kernel)
theorem d_X12_had_57 : decode prog_14_method_71_code 57 = .ok (.ireturn, 1) := ge_ireturn (by decide +kernel)
def f_X12_had (a0 : Nat) (a1 : Int32) (μ : gm_M) : Option (Option Value × gm_M) := if gm_tag μ a0 = 17 then gm_bI (f_X12_isChild a0 a1 μ) (fun x2 m1 => if x2 ≠ 0 then if gm_tag m1 a0 = 17 then gm_bV (f_X12_keeps a0 m1) (fun m3 => gm_loop (fun (s5 : Int32 × Int32 × gm_M) => if (6 : Int32) < s5.2.1 then some (Sum.inr (some (.int s5.1), s5.2.2)) else gm_gR s5.2.2 [17] a0 1 (fun v6 => gm_sI s5.2.2 v6 ((1 : Int32) + a1) s5.2.1 (fun m7 => if gm_tag m7 a0 = 17 then gm_bI (f_X12_areAsSeen a0 m7) (fun x9 m8 => gm_j (fun (s10 : Int32) => some (Sum.inl ((s5.1 ||| s10), (s5.2.1 + (1 : Int32)), m8))) (fun j11 => if x9 = 0 then j11 (0 : Int32) else j11 ((1 : Int32) <<< (s5.2.1 &&& 31)))) else none))) 5000 ((0 : Int32), (0 : Int32), m3)) else none else some (some (.int (-1 : Int32)), m1)) else none
set_option maxHeartbeats 4000000 in
theorem c_X12_had (a0 : Nat) (a1 : Int32) (μ : gm_M) : gm_Call ({ cls := "GumBubbleModel", name := "had", desc := "(I)I" } : Jvm.MethodName) prog_14_method_71_code 4 (some .int) 6 0 0 [.ref a0, .int a1] μ (f_X12_had a0 a1 μ) := by
  refine gm_start PN_12 (Nat.le_of_ble_eq_true rfl) (fun res μe => ?_)
  unfold f_X12_had
  show gm_A "GumBubbleModel" (gm_nm "had") _ _ _ _ _ _ _ _ _ 0 [(0, .ref a0), (1, .int a1)] [] _ _
  refine gm_aload_n d_X12_had_0 rfl 0 rfl ?_
  refine gm_iload_n d_X12_had_1 rfl 1 rfl ?_
  refine gm_grd (fun g2 => ?_)
  refine gm_callV (k0 := 12) [.int a1] (c_X12_isChild a0 a1 μ) g2 rfl B_X12_isChild gw_1047 gs_40 rfl rfl rfl d_X12_had_2 (gm_kI (fun x2 m1 => ?_))
  refine gm_if_ne (tgt := 10) d_X12_had_5 (by decide) (fun h5 => ?_) (fun h5 => ?_)
  ·
    refine gm_iconst (v := 0) d_X12_had_10 (by decide) ?_
    refine gm_istore_n (L' := [(2, .int (0 : Int32)), (0, .ref a0), (1, .int a1)]) d_X12_had_11 rfl (Nat.le_of_ble_eq_true rfl) rfl ?_
    refine gm_aload_n d_X12_had_12 rfl 1 rfl ?_
    refine gm_grd (fun g13 => ?_)
    refine gm_callV (k0 := 12) [] (c_X12_keeps a0 m1) g13 rfl B_X12_keeps gw_1126 gs_52 rfl rfl rfl d_X12_had_13 (gm_kV (fun m3 => ?_))
    refine gm_iconst (v := 0) d_X12_had_16 (by decide) ?_
    refine gm_istore_n (L' := [(3, .int (0 : Int32)), (2, .int (0 : Int32)), (0, .ref a0), (1, .int a1)]) d_X12_had_17 rfl (Nat.le_of_ble_eq_true rfl) rfl ?_
    refine gm_sub (L' := [(0, .ref a0), (1, .int a1), (2, .int (0 : Int32)), (3, .int (0 : Int32))]) [2, 3, 1, 0] rfl ?_
    refine gm_lp (S := Int32 × Int32 × gm_M) (fun _ => 0) (fun _ => 0) (fun s5 => s5.2.2) (fun s5 => [(0, .ref a0), (1, .int a1), (2, .int s5.1), (3, .int s5.2.1)]) (fun _ => []) (fun s5 => ?_) 5000 ((0 : Int32), (0 : Int32), m3)
    refine gm_iload_n d_X12_had_18 rfl 3 rfl ?_
    refine gm_bipush (v := 6) d_X12_had_19 (by decide) ?_
    refine gm_icmp_gt (tgt := 56) d_X12_had_21 (by decide) (fun h21 => ?_) (fun h21 => ?_)
    ·
      refine gm_iload_n d_X12_had_56 rfl 2 rfl ?_
      exact gm_iret rfl d_X12_had_57 (Nat.le_of_ble_eq_true rfl) (Nat.le_of_ble_eq_true rfl) (fun h => h)
    ·
      refine gm_aload_n d_X12_had_24 rfl 0 rfl ?_
      refine gm_getR F_12_s gw_890 d_X12_had_25 (fun v6 _ => ?_)
      refine gm_iconst (v := 1) d_X12_had_28 (by decide) ?_
      refine gm_iload_n d_X12_had_29 rfl 1 rfl ?_
      refine gm_iadd d_X12_had_30 ?_
      refine gm_iload_n d_X12_had_31 rfl 3 rfl ?_
      refine gm_iast d_X12_had_32 (fun m7 _ => ?_)
      refine gm_iload_n d_X12_had_33 rfl 2 rfl ?_
      refine gm_aload_n d_X12_had_34 rfl 0 rfl ?_
      refine gm_grd (fun g35 => ?_)
      refine gm_callV (k0 := 12) [] (c_X12_areAsSeen a0 m7) g35 rfl B_X12_areAsSeen gw_1230 gs_60 rfl rfl rfl d_X12_had_35 (gm_kI (fun x9 m8 => ?_))
      refine gm_join (S := Int32) (pj := 48) (kj := 0) (nj := 0) (fun s10 => m8) (fun s10 => [(0, .ref a0), (1, .int a1), (2, .int s5.1), (3, .int s5.2.1)]) (fun s10 => [.int s10, .int s5.1]) (fun s10 => ?_) (fun j11 hj11 => ?_)
      ·
        refine gm_ior d_X12_had_48 ?_
        refine gm_istore_n (L' := [(2, .int (s5.1 ||| s10)), (0, .ref a0), (1, .int a1), (3, .int s5.2.1)]) d_X12_had_49 rfl (Nat.le_of_ble_eq_true rfl) rfl ?_
        refine gm_iinc (v := s5.2.1 + (1 : Int32)) (L' := [(3, .int (s5.2.1 + (1 : Int32))), (2, .int (s5.1 ||| s10)), (0, .ref a0), (1, .int a1)]) d_X12_had_50 3 rfl rfl (Nat.le_of_ble_eq_true rfl) rfl ?_
        refine gm_goto (tgt := 18) d_X12_had_53 (by decide) ?_
        refine gm_sub (L' := [(0, .ref a0), (1, .int a1), (2, .int (s5.1 ||| s10)), (3, .int (s5.2.1 + (1 : Int32)))]) [2, 3, 1, 0] rfl ?_
        exact gm_back (fun h => h)
      ·
        refine gm_if_eq (tgt := 47) d_X12_had_38 (by decide) (fun h38 => ?_) (fun h38 => ?_)
        ·
          refine gm_iconst (v := 0) d_X12_had_47 (by decide) ?_
          exact hj11 (0 : Int32)
        ·
          refine gm_iconst (v := 1) d_X12_had_41 (by decide) ?_
          refine gm_iload_n d_X12_had_42 rfl 3 rfl ?_
          refine gm_ishl d_X12_had_43 ?_
          refine gm_goto (tgt := 48) d_X12_had_44 (by decide) ?_
          exact hj11 ((1 : Int32) <<< (s5.2.1 &&& 31))
  ·
    refine gm_iconst (v := -1) d_X12_had_8 (by decide) ?_
    exact gm_iret rfl d_X12_had_9 (Nat.le_of_ble_eq_true rfl) (Nat.le_of_ble_eq_true rfl) (fun h => h)
theorem d_X12_image_0 : decode prog_14_method_90_code 0 = .ok (.iconst 0, 1) := ge_iconst_0 (by decide +kernel)
theorem d_X12_image_1 : decode prog_14_method_90_code 1 = .ok (.istore_n 1, 1) := ge_istore_n_1 (by decide +kernel)
theorem d_X12_image_2 : decode prog_14_method_90_code 2 = .ok (.iload_n 1, 1) := ge_iload_n_1 (by decide +kernel)
theorem d_X12_image_3 : decode prog_14_method_90_code 3 = .ok (.sipush 925, 3) := ge_sipush (by decide +kernel)
theorem d_X12_image_6 : decode prog_14_method_90_code 6 = .ok (.if_icmp .ge 21, 3) := ge_if_icmp_ge (by decide +kernel)
theorem d_X12_image_9 : decode prog_14_method_90_code 9 = .ok (.aload_n 0, 1) := ge_aload_n_0 (by decide +kernel)
theorem d_X12_image_10 : decode prog_14_method_90_code 10 = .ok (.getfield 15, 3) := ge_getfield (by decide +kernel)
theorem d_X12_image_13 : decode prog_14_method_90_code 13 = .ok (.iload_n 1, 1) := ge_iload_n_1 (by decide +kernel)
theorem d_X12_image_14 : decode prog_14_method_90_code 14 = .ok (.aload_n 0, 1) := ge_aload_n_0 (by decide +kernel)
theorem d_X12_image_15 : decode prog_14_method_90_code 15 = .ok (.getfield 9, 3) := ge_getfield (by decide +kernel)
theorem d_X12_image_18 : decode prog_14_method_90_code 18 = .ok (.iload_n 1, 1) := ge_iload_n_1 (by decide +kernel)
theorem d_X12_image_19 : decode prog_14_method_90_code 19 = .ok (.iaload, 1) := ge_iaload (by decide +kernel)
theorem d_X12_image_20 : decode prog_14_method_90_code 20 = .ok (.iastore, 1) := ge_iastore (by decide +kernel)
theorem d_X12_image_21 : decode prog_14_method_90_code 21 = .ok (.iinc 1 1, 3) := ge_iinc (by decide +kernel)
theorem d_X12_image_24 : decode prog_14_method_90_code 24 = .ok (.goto (-22), 3) := ge_goto (by decide +kernel)
theorem d_X12_image_27 : decode prog_14_method_90_code 27 = .ok (.aload_n 0, 1) := ge_aload_n_0 (by decide +kernel)
theorem d_X12_image_28 : decode prog_14_method_90_code 28 = .ok (.iconst 1, 1) := ge_iconst_1 (by decide +kernel)
theorem d_X12_image_29 : decode prog_14_method_90_code 29 = .ok (.putfield 283, 3) := ge_putfield (by decide +kernel)
theorem d_X12_image_32 : decode prog_14_method_90_code 32 = .ok (.aload_n 0, 1) := ge_aload_n_0 (by decide +kernel)
theorem d_X12_image_33 : decode prog_14_method_90_code 33 = .ok (.getfield 9, 3) := ge_getfield (by decide +kernel)
theorem d_X12_image_36 : decode prog_14_method_90_code 36 = .ok (.bipush 26, 2) := ge_bipush (by decide +kernel)
theorem d_X12_image_38 : decode prog_14_method_90_code 38 = .ok (.iaload, 1) := ge_iaload (by decide +kernel)
theorem d_X12_image_39 : decode prog_14_method_90_code 39 = .ok (.ireturn, 1) := ge_ireturn (by decide +kernel)
def f_X12_image (a0 : Nat) (μ : gm_M) : Option (Option Value × gm_M) := gm_loop (fun (s1 : Int32 × gm_M) => if (925 : Int32) ≤ s1.1 then gm_pZ s1.2 [17] a0 4 (1 : Int32) (fun m2 => gm_gR m2 [17] a0 1 (fun v3 => gm_aI m2 v3 (26 : Int32) (fun v4 => some (Sum.inr (some (.int v4), m2))))) else gm_gR s1.2 [17] a0 2 (fun v5 => gm_gR s1.2 [17] a0 1 (fun v6 => gm_aI s1.2 v6 s1.1 (fun v7 => gm_sI s1.2 v5 s1.1 v7 (fun m8 => some (Sum.inl ((s1.1 + (1 : Int32)), m8))))))) 5000 ((0 : Int32), μ)
set_option maxHeartbeats 4000000 in
theorem c_X12_image (a0 : Nat) (μ : gm_M) : gm_Call ({ cls := "GumBubbleModel", name := "image", desc := "()I" } : Jvm.MethodName) prog_14_method_90_code 2 (some .int) 0 0 0 [.ref a0] μ (f_X12_image a0 μ) := by
  refine gm_start PN_12 (Nat.le_of_ble_eq_true rfl) (fun res μe => ?_)
  unfold f_X12_image
  show gm_A "GumBubbleModel" (gm_nm "image") _ _ _ _ _ _ _ _ _ 0 [(0, .ref a0)] [] _ _
  refine gm_iconst (v := 0) d_X12_image_0 (by decide) ?_
  refine gm_istore_n (L' := [(1, .int (0 : Int32)), (0, .ref a0)]) d_X12_image_1 rfl (Nat.le_of_ble_eq_true rfl) rfl ?_
  refine gm_sub (L' := [(0, .ref a0), (1, .int (0 : Int32))]) [1, 0] rfl ?_
  refine gm_lp (S := Int32 × gm_M) (fun _ => 0) (fun _ => 0) (fun s1 => s1.2) (fun s1 => [(0, .ref a0), (1, .int s1.1)]) (fun _ => []) (fun s1 => ?_) 5000 ((0 : Int32), μ)
  refine gm_iload_n d_X12_image_2 rfl 1 rfl ?_
  refine gm_sipush (v := 925) d_X12_image_3 (by decide) ?_
  refine gm_icmp_ge (tgt := 27) d_X12_image_6 (by decide) (fun h6 => ?_) (fun h6 => ?_)
  ·
    refine gm_aload_n d_X12_image_27 rfl 0 rfl ?_
    refine gm_iconst (v := 1) d_X12_image_28 (by decide) ?_
    refine gm_putZ F_12_hasImage (Or.inl rfl) gw_893 d_X12_image_29 (fun m2 _ => ?_)
    refine gm_aload_n d_X12_image_32 rfl 0 rfl ?_
    refine gm_getR F_12_s gw_890 d_X12_image_33 (fun v3 _ => ?_)
    refine gm_bipush (v := 26) d_X12_image_36 (by decide) ?_
    refine gm_iald d_X12_image_38 (fun v4 _ => ?_)
    exact gm_iret rfl d_X12_image_39 (Nat.le_of_ble_eq_true rfl) (Nat.le_of_ble_eq_true rfl) (fun h => h)
  ·
    refine gm_aload_n d_X12_image_9 rfl 0 rfl ?_
    refine gm_getR F_12_image gw_891 d_X12_image_10 (fun v5 _ => ?_)
    refine gm_iload_n d_X12_image_13 rfl 1 rfl ?_
    refine gm_aload_n d_X12_image_14 rfl 0 rfl ?_
    refine gm_getR F_12_s gw_890 d_X12_image_15 (fun v6 _ => ?_)
    refine gm_iload_n d_X12_image_18 rfl 1 rfl ?_
    refine gm_iald d_X12_image_19 (fun v7 _ => ?_)
    refine gm_iast d_X12_image_20 (fun m8 _ => ?_)
    refine gm_iinc (v := s1.1 + (1 : Int32)) (L' := [(1, .int (s1.1 + (1 : Int32))), (0, .ref a0)]) d_X12_image_21 1 rfl rfl (Nat.le_of_ble_eq_true rfl) rfl ?_
    refine gm_goto (tgt := 2) d_X12_image_24 (by decide) ?_
    refine gm_sub (L' := [(0, .ref a0), (1, .int (s1.1 + (1 : Int32)))]) [1, 0] rfl ?_
    exact gm_back (fun h => h)
theorem d_X12_init_0 : decode prog_14_method_1_code 0 = .ok (.aload_n 0, 1) := ge_aload_n_0 (by decide +kernel)
theorem d_X12_init_1 : decode prog_14_method_1_code 1 = .ok (.invokespecial 3, 3) := ge_invokespecial (by decide +kernel)
theorem d_X12_init_4 : decode prog_14_method_1_code 4 = .ok (.aload_n 0, 1) := ge_aload_n_0 (by decide +kernel)
theorem d_X12_init_5 : decode prog_14_method_1_code 5 = .ok (.sipush 925, 3) := ge_sipush (by decide +kernel)
theorem d_X12_init_8 : decode prog_14_method_1_code 8 = .ok (.newarray .int, 2) := by decide +kernel
theorem d_X12_init_10 : decode prog_14_method_1_code 10 = .ok (.putfield 9, 3) := ge_putfield (by decide +kernel)
theorem d_X12_init_13 : decode prog_14_method_1_code 13 = .ok (.aload_n 0, 1) := ge_aload_n_0 (by decide +kernel)
theorem d_X12_init_14 : decode prog_14_method_1_code 14 = .ok (.sipush 925, 3) := ge_sipush (by decide +kernel)
theorem d_X12_init_17 : decode prog_14_method_1_code 17 = .ok (.newarray .int, 2) := by decide +kernel
theorem d_X12_init_19 : decode prog_14_method_1_code 19 = .ok (.putfield 15, 3) := ge_putfield (by decide +kernel)
theorem d_X12_init_22 : decode prog_14_method_1_code 22 = .ok (.aload_n 0, 1) := ge_aload_n_0 (by decide +kernel)
theorem d_X12_init_23 : decode prog_14_method_1_code 23 = .ok (.bipush 26, 2) := ge_bipush (by decide +kernel)
theorem d_X12_init_25 : decode prog_14_method_1_code 25 = .ok (.newarray .int, 2) := by decide +kernel
theorem d_X12_init_27 : decode prog_14_method_1_code 27 = .ok (.putfield 18, 3) := ge_putfield (by decide +kernel)
theorem d_X12_init_30 : decode prog_14_method_1_code 30 = .ok (.aload_n 0, 1) := ge_aload_n_0 (by decide +kernel)
theorem d_X12_init_31 : decode prog_14_method_1_code 31 = .ok (.bipush 6, 2) := ge_bipush (by decide +kernel)
theorem d_X12_init_33 : decode prog_14_method_1_code 33 = .ok (.newarray .int, 2) := by decide +kernel
theorem d_X12_init_35 : decode prog_14_method_1_code 35 = .ok (.putfield 21, 3) := ge_putfield (by decide +kernel)
theorem d_X12_init_38 : decode prog_14_method_1_code 38 = .ok (.aload_n 0, 1) := ge_aload_n_0 (by decide +kernel)
theorem d_X12_init_39 : decode prog_14_method_1_code 39 = .ok (.bipush 64, 2) := ge_bipush (by decide +kernel)
theorem d_X12_init_41 : decode prog_14_method_1_code 41 = .ok (.newarray .boolean, 2) := by decide +kernel
theorem d_X12_init_43 : decode prog_14_method_1_code 43 = .ok (.putfield 24, 3) := ge_putfield (by decide +kernel)
theorem d_X12_init_46 : decode prog_14_method_1_code 46 = .ok (.aload_n 0, 1) := ge_aload_n_0 (by decide +kernel)
theorem d_X12_init_47 : decode prog_14_method_1_code 47 = .ok (.bipush 25, 2) := ge_bipush (by decide +kernel)
theorem d_X12_init_49 : decode prog_14_method_1_code 49 = .ok (.newarray .int, 2) := by decide +kernel
theorem d_X12_init_51 : decode prog_14_method_1_code 51 = .ok (.putfield 28, 3) := ge_putfield (by decide +kernel)
theorem d_X12_init_54 : decode prog_14_method_1_code 54 = .ok (.aload_n 0, 1) := ge_aload_n_0 (by decide +kernel)
theorem d_X12_init_55 : decode prog_14_method_1_code 55 = .ok (.iconst 5, 1) := ge_iconst_5 (by decide +kernel)
theorem d_X12_init_56 : decode prog_14_method_1_code 56 = .ok (.newarray .int, 2) := by decide +kernel
theorem d_X12_init_58 : decode prog_14_method_1_code 58 = .ok (.putfield 31, 3) := ge_putfield (by decide +kernel)
theorem d_X12_init_61 : decode prog_14_method_1_code 61 = .ok (.aload_n 0, 1) := ge_aload_n_0 (by decide +kernel)
theorem d_X12_init_62 : decode prog_14_method_1_code 62 = .ok (.iconst 5, 1) := ge_iconst_5 (by decide +kernel)
theorem d_X12_init_63 : decode prog_14_method_1_code 63 = .ok (.newarray .int, 2) := by decide +kernel
theorem d_X12_init_65 : decode prog_14_method_1_code 65 = .ok (.putfield 34, 3) := ge_putfield (by decide +kernel)
theorem d_X12_init_68 : decode prog_14_method_1_code 68 = .ok (.aload_n 0, 1) := ge_aload_n_0 (by decide +kernel)
theorem d_X12_init_69 : decode prog_14_method_1_code 69 = .ok (.bipush 20, 2) := ge_bipush (by decide +kernel)
theorem d_X12_init_71 : decode prog_14_method_1_code 71 = .ok (.newarray .int, 2) := by decide +kernel
theorem d_X12_init_73 : decode prog_14_method_1_code 73 = .ok (.putfield 37, 3) := ge_putfield (by decide +kernel)
theorem d_X12_init_76 : decode prog_14_method_1_code 76 = .ok (.aload_n 0, 1) := ge_aload_n_0 (by decide +kernel)
theorem d_X12_init_77 : decode prog_14_method_1_code 77 = .ok (.getfield 9, 3) := ge_getfield (by decide +kernel)
theorem d_X12_init_80 : decode prog_14_method_1_code 80 = .ok (.bipush 32, 2) := ge_bipush (by decide +kernel)
theorem d_X12_init_82 : decode prog_14_method_1_code 82 = .ok (.iconst (-1), 1) := ge_iconst_m1_ (by decide +kernel)
theorem d_X12_init_83 : decode prog_14_method_1_code 83 = .ok (.iastore, 1) := ge_iastore (by decide +kernel)
theorem d_X12_init_84 : decode prog_14_method_1_code 84 = .ok (.return_, 1) := ge_return_ (by decide +kernel)
def f_X12_init (a0 : Nat) (μ : gm_M) : Option (Option Value × gm_M) := if gm_tag μ a0 ≠ 0 then gm_nA μ 1 (925 : Int32) 925 (fun q2 m3 => gm_pR m3 [17] a0 1 q2 (fun m4 => gm_nA m4 1 (925 : Int32) 925 (fun q5 m6 => gm_pR m6 [17] a0 2 q5 (fun m7 => gm_nA m7 1 (26 : Int32) 26 (fun q8 m9 => gm_pR m9 [17] a0 3 q8 (fun m10 => gm_nA m10 1 (6 : Int32) 6 (fun q11 m12 => gm_pR m12 [17] a0 10 q11 (fun m13 => gm_nA m13 2 (64 : Int32) 64 (fun q14 m15 => gm_pR m15 [17] a0 11 q14 (fun m16 => gm_nA m16 1 (25 : Int32) 25 (fun q17 m18 => gm_pR m18 [17] a0 14 q17 (fun m19 => gm_nA m19 1 (5 : Int32) 5 (fun q20 m21 => gm_pR m21 [17] a0 15 q20 (fun m22 => gm_nA m22 1 (5 : Int32) 5 (fun q23 m24 => gm_pR m24 [17] a0 16 q23 (fun m25 => gm_nA m25 1 (20 : Int32) 20 (fun q26 m27 => gm_pR m27 [17] a0 18 q26 (fun m28 => gm_gR m28 [17] a0 1 (fun v29 => gm_sI m28 v29 (32 : Int32) (-1 : Int32) (fun m30 => some (none, m30))))))))))))))))))))) else none
set_option maxHeartbeats 4000000 in
theorem c_X12_init (a0 : Nat) (μ : gm_M) : gm_Call ({ cls := "GumBubbleModel", name := "<init>", desc := "()V" } : Jvm.MethodName) prog_14_method_1_code 1 none 1 9 2001 [.ref a0] μ (f_X12_init a0 μ) := by
  refine gm_start PN_12 (Nat.le_of_ble_eq_true rfl) (fun res μe => ?_)
  unfold f_X12_init
  show gm_A "GumBubbleModel" (gm_nm "<init>") _ _ _ _ _ _ _ _ _ 0 [(0, .ref a0)] [] _ _
  refine gm_aload_n d_X12_init_0 rfl 0 rfl ?_
  refine gm_grd (fun g1 => ?_)
  refine gm_obj g1 gw_889 gw_27 gw_28 (Nat.le_of_ble_eq_true rfl) (Nat.le_of_ble_eq_true rfl) rfl d_X12_init_1 ?_
  refine gm_aload_n d_X12_init_4 rfl 0 rfl ?_
  refine gm_sipush (v := 925) d_X12_init_5 (by decide) ?_
  refine gm_newaI (B := 925) (Nat.le_of_ble_eq_true rfl) gw_51 (Nat.le_of_ble_eq_true rfl) (Nat.le_of_ble_eq_true rfl) d_X12_init_8 (fun q2 m3 _ _ => ?_)
  refine gm_putR F_12_s (Or.inr ⟨rfl, rfl⟩) gw_890 d_X12_init_10 (fun m4 _ => ?_)
  refine gm_aload_n d_X12_init_13 rfl 0 rfl ?_
  refine gm_sipush (v := 925) d_X12_init_14 (by decide) ?_
  refine gm_newaI (B := 925) (Nat.le_of_ble_eq_true rfl) gw_51 (Nat.le_of_ble_eq_true rfl) (Nat.le_of_ble_eq_true rfl) d_X12_init_17 (fun q5 m6 _ _ => ?_)
  refine gm_putR F_12_image (Or.inr ⟨rfl, rfl⟩) gw_891 d_X12_init_19 (fun m7 _ => ?_)
  refine gm_aload_n d_X12_init_22 rfl 0 rfl ?_
  refine gm_bipush (v := 26) d_X12_init_23 (by decide) ?_
  refine gm_newaI (B := 26) (Nat.le_of_ble_eq_true rfl) gw_51 (Nat.le_of_ble_eq_true rfl) (Nat.le_of_ble_eq_true rfl) d_X12_init_25 (fun q8 m9 _ _ => ?_)
  refine gm_putR F_12_frame (Or.inr ⟨rfl, rfl⟩) gw_892 d_X12_init_27 (fun m10 _ => ?_)
  refine gm_aload_n d_X12_init_30 rfl 0 rfl ?_
  refine gm_bipush (v := 6) d_X12_init_31 (by decide) ?_
  refine gm_newaI (B := 6) (Nat.le_of_ble_eq_true rfl) gw_51 (Nat.le_of_ble_eq_true rfl) (Nat.le_of_ble_eq_true rfl) d_X12_init_33 (fun q11 m12 _ _ => ?_)
  refine gm_putR F_12_by (Or.inr ⟨rfl, rfl⟩) gw_899 d_X12_init_35 (fun m13 _ => ?_)
  refine gm_aload_n d_X12_init_38 rfl 0 rfl ?_
  refine gm_bipush (v := 64) d_X12_init_39 (by decide) ?_
  refine gm_newaZ (B := 64) (Nat.le_of_ble_eq_true rfl) gw_959 (Nat.le_of_ble_eq_true rfl) (Nat.le_of_ble_eq_true rfl) d_X12_init_41 (fun q14 m15 _ _ => ?_)
  refine gm_putR F_12_truths (Or.inr ⟨rfl, rfl⟩) gw_900 d_X12_init_43 (fun m16 _ => ?_)
  refine gm_aload_n d_X12_init_46 rfl 0 rfl ?_
  refine gm_bipush (v := 25) d_X12_init_47 (by decide) ?_
  refine gm_newaI (B := 25) (Nat.le_of_ble_eq_true rfl) gw_51 (Nat.le_of_ble_eq_true rfl) (Nat.le_of_ble_eq_true rfl) d_X12_init_49 (fun q17 m18 _ _ => ?_)
  refine gm_putR F_12_held (Or.inr ⟨rfl, rfl⟩) gw_903 d_X12_init_51 (fun m19 _ => ?_)
  refine gm_aload_n d_X12_init_54 rfl 0 rfl ?_
  refine gm_iconst (v := 5) d_X12_init_55 (by decide) ?_
  refine gm_newaI (B := 5) (Nat.le_of_ble_eq_true rfl) gw_51 (Nat.le_of_ble_eq_true rfl) (Nat.le_of_ble_eq_true rfl) d_X12_init_56 (fun q20 m21 _ _ => ?_)
  refine gm_putR F_12_line (Or.inr ⟨rfl, rfl⟩) gw_904 d_X12_init_58 (fun m22 _ => ?_)
  refine gm_aload_n d_X12_init_61 rfl 0 rfl ?_
  refine gm_iconst (v := 5) d_X12_init_62 (by decide) ?_
  refine gm_newaI (B := 5) (Nat.le_of_ble_eq_true rfl) gw_51 (Nat.le_of_ble_eq_true rfl) (Nat.le_of_ble_eq_true rfl) d_X12_init_63 (fun q23 m24 _ _ => ?_)
  refine gm_putR F_12_bestLine (Or.inr ⟨rfl, rfl⟩) gw_905 d_X12_init_65 (fun m25 _ => ?_)
  refine gm_aload_n d_X12_init_68 rfl 0 rfl ?_
  refine gm_bipush (v := 20) d_X12_init_69 (by decide) ?_
  refine gm_newaI (B := 20) (Nat.le_of_ble_eq_true rfl) gw_51 (Nat.le_of_ble_eq_true rfl) (Nat.le_of_ble_eq_true rfl) d_X12_init_71 (fun q26 m27 _ _ => ?_)
  refine gm_putR F_12_bodies (Or.inr ⟨rfl, rfl⟩) gw_907 d_X12_init_73 (fun m28 _ => ?_)
  refine gm_aload_n d_X12_init_76 rfl 0 rfl ?_
  refine gm_getR F_12_s gw_890 d_X12_init_77 (fun v29 _ => ?_)
  refine gm_bipush (v := 32) d_X12_init_80 (by decide) ?_
  refine gm_iconst (v := -1) d_X12_init_82 (by decide) ?_
  refine gm_iast d_X12_init_83 (fun m30 _ => ?_)
  exact gm_vret rfl d_X12_init_84 (Nat.le_of_ble_eq_true rfl) (Nat.le_of_ble_eq_true rfl) (fun h => h)
theorem d_X12_likely_0 : decode prog_14_method_56_code 0 = .ok (.aload_n 0, 1) := ge_aload_n_0 (by decide +kernel)
theorem d_X12_likely_1 : decode prog_14_method_56_code 1 = .ok (.iload_n 1, 1) := ge_iload_n_1 (by decide +kernel)
theorem d_X12_likely_2 : decode prog_14_method_56_code 2 = .ok (.invokevirtual 154, 3) := ge_invokevirtual (by decide +kernel)
theorem d_X12_likely_5 : decode prog_14_method_56_code 5 = .ok (.ifCond .eq 23, 3) := ge_ifCond_eq (by decide +kernel)
theorem d_X12_likely_8 : decode prog_14_method_56_code 8 = .ok (.iload_n 2, 1) := ge_iload_n_2 (by decide +kernel)
theorem d_X12_likely_9 : decode prog_14_method_56_code 9 = .ok (.iconst 0, 1) := ge_iconst_0 (by decide +kernel)
theorem d_X12_likely_10 : decode prog_14_method_56_code 10 = .ok (.sipush 999, 3) := ge_sipush (by decide +kernel)
theorem d_X12_likely_13 : decode prog_14_method_56_code 13 = .ok (.invokestatic 44, 3) := ge_invokestatic (by decide +kernel)
theorem d_X12_likely_16 : decode prog_14_method_56_code 16 = .ok (.ifCond .eq 12, 3) := ge_ifCond_eq (by decide +kernel)
theorem d_X12_likely_19 : decode prog_14_method_56_code 19 = .ok (.iload_n 3, 1) := ge_iload_n_3 (by decide +kernel)
theorem d_X12_likely_20 : decode prog_14_method_56_code 20 = .ok (.iconst 0, 1) := ge_iconst_0 (by decide +kernel)
theorem d_X12_likely_21 : decode prog_14_method_56_code 21 = .ok (.iconst 1, 1) := ge_iconst_1 (by decide +kernel)
theorem d_X12_likely_22 : decode prog_14_method_56_code 22 = .ok (.invokestatic 44, 3) := ge_invokestatic (by decide +kernel)
theorem d_X12_likely_25 : decode prog_14_method_56_code 25 = .ok (.ifCond .ne 7, 3) := ge_ifCond_ne (by decide +kernel)
theorem d_X12_likely_28 : decode prog_14_method_56_code 28 = .ok (.ldc2_w 207, 3) := ge_ldc2_w (by decide +kernel)
theorem d_X12_likely_31 : decode prog_14_method_56_code 31 = .ok (.lreturn, 1) := ge_lreturn (by decide +kernel)
theorem d_X12_likely_32 : decode prog_14_method_56_code 32 = .ok (.aload_n 0, 1) := ge_aload_n_0 (by decide +kernel)
theorem d_X12_likely_33 : decode prog_14_method_56_code 33 = .ok (.iload_n 1, 1) := ge_iload_n_1 (by decide +kernel)
theorem d_X12_likely_34 : decode prog_14_method_56_code 34 = .ok (.invokevirtual 148, 3) := ge_invokevirtual (by decide +kernel)
theorem d_X12_likely_37 : decode prog_14_method_56_code 37 = .ok (.iload_n 2, 1) := ge_iload_n_2 (by decide +kernel)
theorem d_X12_likely_38 : decode prog_14_method_56_code 38 = .ok (.invokestatic 209, 3) := ge_invokestatic (by decide +kernel)
theorem d_X12_likely_41 : decode prog_14_method_56_code 41 = .ok (.i2l, 1) := ge_i2l (by decide +kernel)
theorem d_X12_likely_42 : decode prog_14_method_56_code 42 = .ok (.ldc2_w 212, 3) := ge_ldc2_w (by decide +kernel)
theorem d_X12_likely_45 : decode prog_14_method_56_code 45 = .ok (.iload_n 3, 1) := ge_iload_n_3 (by decide +kernel)
theorem d_X12_likely_46 : decode prog_14_method_56_code 46 = .ok (.invokestatic 214, 3) := ge_invokestatic (by decide +kernel)
theorem d_X12_likely_49 : decode prog_14_method_56_code 49 = .ok (.lreturn, 1) := ge_lreturn (by decide +kernel)
def f_X12_likely (a0 : Nat) (a1 : Int32) (a2 : Int32) (a3 : Int32) (μ : gm_M) : Option (Option Value × gm_M) := if gm_tag μ a0 = 17 then gm_bI (f_X12_isChild a0 a1 μ) (fun x2 m1 => gm_j (fun (s3 : gm_M) => some (some (.long (-9223372036854775808 : Int64)), s3)) (fun j4 => if x2 = 0 then j4 m1 else gm_bI (f_X12_in a2 (0 : Int32) (999 : Int32) m1) (fun x6 m5 => if x6 = 0 then j4 m5 else gm_bI (f_X12_in a3 (0 : Int32) (1 : Int32) m5) (fun x8 m7 => if x8 ≠ 0 then if gm_tag m7 a0 = 17 then gm_bI (f_X12_holdsOf a0 a1 m7) (fun x10 m9 => gm_bI (f_X12_likelyOf x10 a2 m9) (fun x12 m11 => gm_bL (f_X12_lowest (Int32.toInt64 x12) (10 : Int64) a3 m11) (fun x14 m13 => some (some (.long x14), m13)))) else none else j4 m7)))) else none
set_option maxHeartbeats 4000000 in
theorem c_X12_likely (a0 : Nat) (a1 : Int32) (a2 : Int32) (a3 : Int32) (μ : gm_M) : gm_Call ({ cls := "GumBubbleModel", name := "likely", desc := "(III)J" } : Jvm.MethodName) prog_14_method_56_code 4 (some .long) 4 0 0 [.ref a0, .int a1, .int a2, .int a3] μ (f_X12_likely a0 a1 a2 a3 μ) := by
  refine gm_start PN_12 (Nat.le_of_ble_eq_true rfl) (fun res μe => ?_)
  unfold f_X12_likely
  show gm_A "GumBubbleModel" (gm_nm "likely") _ _ _ _ _ _ _ _ _ 0 [(0, .ref a0), (1, .int a1), (2, .int a2), (3, .int a3)] [] _ _
  refine gm_aload_n d_X12_likely_0 rfl 0 rfl ?_
  refine gm_iload_n d_X12_likely_1 rfl 1 rfl ?_
  refine gm_grd (fun g2 => ?_)
  refine gm_callV (k0 := 12) [.int a1] (c_X12_isChild a0 a1 μ) g2 rfl B_X12_isChild gw_1047 gs_40 rfl rfl rfl d_X12_likely_2 (gm_kI (fun x2 m1 => ?_))
  refine gm_join (S := gm_M) (pj := 28) (kj := 0) (nj := 0) (fun s3 => s3) (fun s3 => [(0, .ref a0), (1, .int a1), (2, .int a2), (3, .int a3)]) (fun s3 => []) (fun s3 => ?_) (fun j4 hj4 => ?_)
  ·
    refine gm_ldc2 (v := -9223372036854775808) gw_1170 d_X12_likely_28 ?_
    exact gm_lret rfl d_X12_likely_31 (Nat.le_of_ble_eq_true rfl) (Nat.le_of_ble_eq_true rfl) (fun h => h)
  ·
    refine gm_if_eq (tgt := 28) d_X12_likely_5 (by decide) (fun h5 => ?_) (fun h5 => ?_)
    ·
      exact hj4 m1
    ·
      refine gm_iload_n d_X12_likely_8 rfl 2 rfl ?_
      refine gm_iconst (v := 0) d_X12_likely_9 (by decide) ?_
      refine gm_sipush (v := 999) d_X12_likely_10 (by decide) ?_
      refine gm_callS [.int a2, .int (0 : Int32), .int (999 : Int32)] (c_X12_in a2 (0 : Int32) (999 : Int32) m1) B_X12_in gw_964 rfl rfl rfl d_X12_likely_13 (gm_kI (fun x6 m5 => ?_))
      refine gm_if_eq (tgt := 28) d_X12_likely_16 (by decide) (fun h16 => ?_) (fun h16 => ?_)
      ·
        exact hj4 m5
      ·
        refine gm_iload_n d_X12_likely_19 rfl 3 rfl ?_
        refine gm_iconst (v := 0) d_X12_likely_20 (by decide) ?_
        refine gm_iconst (v := 1) d_X12_likely_21 (by decide) ?_
        refine gm_callS [.int a3, .int (0 : Int32), .int (1 : Int32)] (c_X12_in a3 (0 : Int32) (1 : Int32) m5) B_X12_in gw_964 rfl rfl rfl d_X12_likely_22 (gm_kI (fun x8 m7 => ?_))
        refine gm_if_ne (tgt := 32) d_X12_likely_25 (by decide) (fun h25 => ?_) (fun h25 => ?_)
        ·
          refine gm_aload_n d_X12_likely_32 rfl 0 rfl ?_
          refine gm_iload_n d_X12_likely_33 rfl 1 rfl ?_
          refine gm_grd (fun g34 => ?_)
          refine gm_callV (k0 := 12) [.int a1] (c_X12_holdsOf a0 a1 m7) g34 rfl B_X12_holdsOf gw_1074 gs_45 rfl rfl rfl d_X12_likely_34 (gm_kI (fun x10 m9 => ?_))
          refine gm_iload_n d_X12_likely_37 rfl 2 rfl ?_
          refine gm_callS [.int x10, .int a2] (c_X12_likelyOf x10 a2 m9) B_X12_likelyOf gw_1171 rfl rfl rfl d_X12_likely_38 (gm_kI (fun x12 m11 => ?_))
          refine gm_i2l d_X12_likely_41 ?_
          refine gm_ldc2 (v := 10) gw_1177 d_X12_likely_42 ?_
          refine gm_iload_n d_X12_likely_45 rfl 3 rfl ?_
          refine gm_callS [.long (Int32.toInt64 x12), .long (10 : Int64), .int a3] (c_X12_lowest (Int32.toInt64 x12) (10 : Int64) a3 m11) B_X12_lowest gw_1178 rfl rfl rfl d_X12_likely_46 (gm_kL (fun x14 m13 => ?_))
          exact gm_lret rfl d_X12_likely_49 (Nat.le_of_ble_eq_true rfl) (Nat.le_of_ble_eq_true rfl) (fun h => h)
        ·
          exact hj4 m7
theorem d_X12_looked_0 : decode prog_14_method_78_code 0 = .ok (.iconst 0, 1) := ge_iconst_0 (by decide +kernel)
theorem d_X12_looked_1 : decode prog_14_method_78_code 1 = .ok (.istore_n 1, 1) := ge_istore_n_1 (by decide +kernel)
theorem d_X12_looked_2 : decode prog_14_method_78_code 2 = .ok (.iload_n 1, 1) := ge_iload_n_1 (by decide +kernel)
theorem d_X12_looked_3 : decode prog_14_method_78_code 3 = .ok (.aload_n 0, 1) := ge_aload_n_0 (by decide +kernel)
theorem d_X12_looked_4 : decode prog_14_method_78_code 4 = .ok (.getfield 9, 3) := ge_getfield (by decide +kernel)
theorem d_X12_looked_7 : decode prog_14_method_78_code 7 = .ok (.bipush 30, 2) := ge_bipush (by decide +kernel)
theorem d_X12_looked_9 : decode prog_14_method_78_code 9 = .ok (.iaload, 1) := ge_iaload (by decide +kernel)
theorem d_X12_looked_10 : decode prog_14_method_78_code 10 = .ok (.if_icmp .ge 40, 3) := ge_if_icmp_ge (by decide +kernel)
theorem d_X12_looked_13 : decode prog_14_method_78_code 13 = .ok (.aload_n 0, 1) := ge_aload_n_0 (by decide +kernel)
theorem d_X12_looked_14 : decode prog_14_method_78_code 14 = .ok (.getfield 9, 3) := ge_getfield (by decide +kernel)
theorem d_X12_looked_17 : decode prog_14_method_78_code 17 = .ok (.bipush 16, 2) := ge_bipush (by decide +kernel)
theorem d_X12_looked_19 : decode prog_14_method_78_code 19 = .ok (.aload_n 0, 1) := ge_aload_n_0 (by decide +kernel)
theorem d_X12_looked_20 : decode prog_14_method_78_code 20 = .ok (.getfield 9, 3) := ge_getfield (by decide +kernel)
theorem d_X12_looked_23 : decode prog_14_method_78_code 23 = .ok (.bipush 94, 2) := ge_bipush (by decide +kernel)
theorem d_X12_looked_25 : decode prog_14_method_78_code 25 = .ok (.iload_n 1, 1) := ge_iload_n_1 (by decide +kernel)
theorem d_X12_looked_26 : decode prog_14_method_78_code 26 = .ok (.iadd, 1) := ge_iadd (by decide +kernel)
theorem d_X12_looked_27 : decode prog_14_method_78_code 27 = .ok (.iaload, 1) := ge_iaload (by decide +kernel)
theorem d_X12_looked_28 : decode prog_14_method_78_code 28 = .ok (.iadd, 1) := ge_iadd (by decide +kernel)
theorem d_X12_looked_29 : decode prog_14_method_78_code 29 = .ok (.iaload, 1) := ge_iaload (by decide +kernel)
theorem d_X12_looked_30 : decode prog_14_method_78_code 30 = .ok (.aload_n 0, 1) := ge_aload_n_0 (by decide +kernel)
theorem d_X12_looked_31 : decode prog_14_method_78_code 31 = .ok (.getfield 9, 3) := ge_getfield (by decide +kernel)
theorem d_X12_looked_34 : decode prog_14_method_78_code 34 = .ok (.bipush 102, 2) := ge_bipush (by decide +kernel)
theorem d_X12_looked_36 : decode prog_14_method_78_code 36 = .ok (.iload_n 1, 1) := ge_iload_n_1 (by decide +kernel)
theorem d_X12_looked_37 : decode prog_14_method_78_code 37 = .ok (.iadd, 1) := ge_iadd (by decide +kernel)
theorem d_X12_looked_38 : decode prog_14_method_78_code 38 = .ok (.iaload, 1) := ge_iaload (by decide +kernel)
theorem d_X12_looked_39 : decode prog_14_method_78_code 39 = .ok (.if_icmp .eq 5, 3) := ge_if_icmp_eq (by decide +kernel)
theorem d_X12_looked_42 : decode prog_14_method_78_code 42 = .ok (.iload_n 1, 1) := ge_iload_n_1 (by decide +kernel)
theorem d_X12_looked_43 : decode prog_14_method_78_code 43 = .ok (.ireturn, 1) := ge_ireturn (by decide +kernel)
theorem d_X12_looked_44 : decode prog_14_method_78_code 44 = .ok (.iinc 1 1, 3) := ge_iinc (by decide +kernel)
theorem d_X12_looked_47 : decode prog_14_method_78_code 47 = .ok (.goto (-45), 3) := ge_goto (by decide +kernel)
theorem d_X12_looked_50 : decode prog_14_method_78_code 50 = .ok (.bipush (-5), 2) := ge_bipush (by decide +kernel)
theorem d_X12_looked_52 : decode prog_14_method_78_code 52 = .ok (.ireturn, 1) := ge_ireturn (by decide +kernel)
def f_X12_looked (a0 : Nat) (μ : gm_M) : Option (Option Value × gm_M) := gm_loop (fun (s1 : Int32) => gm_gR μ [17] a0 1 (fun v2 => gm_aI μ v2 (30 : Int32) (fun v3 => if v3 ≤ s1 then some (Sum.inr (some (.int (-5 : Int32)), μ)) else gm_gR μ [17] a0 1 (fun v4 => gm_gR μ [17] a0 1 (fun v5 => gm_aI μ v5 ((94 : Int32) + s1) (fun v6 => gm_aI μ v4 ((16 : Int32) + v6) (fun v7 => gm_gR μ [17] a0 1 (fun v8 => gm_aI μ v8 ((102 : Int32) + s1) (fun v9 => if v7 = v9 then some (Sum.inl (s1 + (1 : Int32))) else some (Sum.inr (some (.int s1), μ))))))))))) 5000 (0 : Int32)
set_option maxHeartbeats 4000000 in
theorem c_X12_looked (a0 : Nat) (μ : gm_M) : gm_Call ({ cls := "GumBubbleModel", name := "looked", desc := "()I" } : Jvm.MethodName) prog_14_method_78_code 2 (some .int) 0 0 0 [.ref a0] μ (f_X12_looked a0 μ) := by
  refine gm_start PN_12 (Nat.le_of_ble_eq_true rfl) (fun res μe => ?_)
  unfold f_X12_looked
  show gm_A "GumBubbleModel" (gm_nm "looked") _ _ _ _ _ _ _ _ _ 0 [(0, .ref a0)] [] _ _
  refine gm_iconst (v := 0) d_X12_looked_0 (by decide) ?_
  refine gm_istore_n (L' := [(1, .int (0 : Int32)), (0, .ref a0)]) d_X12_looked_1 rfl (Nat.le_of_ble_eq_true rfl) rfl ?_
  refine gm_sub (L' := [(0, .ref a0), (1, .int (0 : Int32))]) [1, 0] rfl ?_
  refine gm_lp (S := Int32) (fun _ => 0) (fun _ => 0) (fun s1 => μ) (fun s1 => [(0, .ref a0), (1, .int s1)]) (fun _ => []) (fun s1 => ?_) 5000 (0 : Int32)
  refine gm_iload_n d_X12_looked_2 rfl 1 rfl ?_
  refine gm_aload_n d_X12_looked_3 rfl 0 rfl ?_
  refine gm_getR F_12_s gw_890 d_X12_looked_4 (fun v2 _ => ?_)
  refine gm_bipush (v := 30) d_X12_looked_7 (by decide) ?_
  refine gm_iald d_X12_looked_9 (fun v3 _ => ?_)
  refine gm_icmp_ge (tgt := 50) d_X12_looked_10 (by decide) (fun h10 => ?_) (fun h10 => ?_)
  ·
    refine gm_bipush (v := -5) d_X12_looked_50 (by decide) ?_
    exact gm_iret rfl d_X12_looked_52 (Nat.le_of_ble_eq_true rfl) (Nat.le_of_ble_eq_true rfl) (fun h => h)
  ·
    refine gm_aload_n d_X12_looked_13 rfl 0 rfl ?_
    refine gm_getR F_12_s gw_890 d_X12_looked_14 (fun v4 _ => ?_)
    refine gm_bipush (v := 16) d_X12_looked_17 (by decide) ?_
    refine gm_aload_n d_X12_looked_19 rfl 0 rfl ?_
    refine gm_getR F_12_s gw_890 d_X12_looked_20 (fun v5 _ => ?_)
    refine gm_bipush (v := 94) d_X12_looked_23 (by decide) ?_
    refine gm_iload_n d_X12_looked_25 rfl 1 rfl ?_
    refine gm_iadd d_X12_looked_26 ?_
    refine gm_iald d_X12_looked_27 (fun v6 _ => ?_)
    refine gm_iadd d_X12_looked_28 ?_
    refine gm_iald d_X12_looked_29 (fun v7 _ => ?_)
    refine gm_aload_n d_X12_looked_30 rfl 0 rfl ?_
    refine gm_getR F_12_s gw_890 d_X12_looked_31 (fun v8 _ => ?_)
    refine gm_bipush (v := 102) d_X12_looked_34 (by decide) ?_
    refine gm_iload_n d_X12_looked_36 rfl 1 rfl ?_
    refine gm_iadd d_X12_looked_37 ?_
    refine gm_iald d_X12_looked_38 (fun v9 _ => ?_)
    refine gm_icmp_eq (tgt := 44) d_X12_looked_39 (by decide) (fun h39 => ?_) (fun h39 => ?_)
    ·
      refine gm_iinc (v := s1 + (1 : Int32)) (L' := [(1, .int (s1 + (1 : Int32))), (0, .ref a0)]) d_X12_looked_44 1 rfl rfl (Nat.le_of_ble_eq_true rfl) rfl ?_
      refine gm_goto (tgt := 2) d_X12_looked_47 (by decide) ?_
      refine gm_sub (L' := [(0, .ref a0), (1, .int (s1 + (1 : Int32)))]) [1, 0] rfl ?_
      exact gm_back (fun h => h)
    ·
      refine gm_iload_n d_X12_looked_42 rfl 1 rfl ?_
      exact gm_iret rfl d_X12_looked_43 (Nat.le_of_ble_eq_true rfl) (Nat.le_of_ble_eq_true rfl) (fun h => h)
theorem d_X12_looksForWhen_0 : decode prog_14_method_46_code 0 = .ok (.aload_n 0, 1) := ge_aload_n_0 (by decide +kernel)
theorem d_X12_looksForWhen_1 : decode prog_14_method_46_code 1 = .ok (.iconst 0, 1) := ge_iconst_0 (by decide +kernel)
theorem d_X12_looksForWhen_2 : decode prog_14_method_46_code 2 = .ok (.putfield 189, 3) := ge_putfield (by decide +kernel)
theorem d_X12_looksForWhen_5 : decode prog_14_method_46_code 5 = .ok (.aload_n 0, 1) := ge_aload_n_0 (by decide +kernel)
theorem d_X12_looksForWhen_6 : decode prog_14_method_46_code 6 = .ok (.iconst (-1), 1) := ge_iconst_m1_ (by decide +kernel)
theorem d_X12_looksForWhen_7 : decode prog_14_method_46_code 7 = .ok (.putfield 192, 3) := ge_putfield (by decide +kernel)
theorem d_X12_looksForWhen_10 : decode prog_14_method_46_code 10 = .ok (.iconst 0, 1) := ge_iconst_0 (by decide +kernel)
theorem d_X12_looksForWhen_11 : decode prog_14_method_46_code 11 = .ok (.istore_n 2, 1) := ge_istore_n_2 (by decide +kernel)
theorem d_X12_looksForWhen_12 : decode prog_14_method_46_code 12 = .ok (.iload_n 2, 1) := ge_iload_n_2 (by decide +kernel)
theorem d_X12_looksForWhen_13 : decode prog_14_method_46_code 13 = .ok (.bipush 60, 2) := ge_bipush (by decide +kernel)
theorem d_X12_looksForWhen_15 : decode prog_14_method_46_code 15 = .ok (.if_icmp .gt 60, 3) := ge_if_icmp_gt (by decide +kernel)
theorem d_X12_looksForWhen_18 : decode prog_14_method_46_code 18 = .ok (.aload_n 0, 1) := ge_aload_n_0 (by decide +kernel)
theorem d_X12_looksForWhen_19 : decode prog_14_method_46_code 19 = .ok (.iload_n 1, 1) := ge_iload_n_1 (by decide +kernel)
theorem d_X12_looksForWhen_20 : decode prog_14_method_46_code 20 = .ok (.invokevirtual 148, 3) := ge_invokevirtual (by decide +kernel)
theorem d_X12_looksForWhen_23 : decode prog_14_method_46_code 23 = .ok (.istore_n 3, 1) := ge_istore_n_3 (by decide +kernel)
theorem d_X12_looksForWhen_24 : decode prog_14_method_46_code 24 = .ok (.aload_n 0, 1) := ge_aload_n_0 (by decide +kernel)
theorem d_X12_looksForWhen_25 : decode prog_14_method_46_code 25 = .ok (.iload_n 3, 1) := ge_iload_n_3 (by decide +kernel)
theorem d_X12_looksForWhen_26 : decode prog_14_method_46_code 26 = .ok (.aload_n 0, 1) := ge_aload_n_0 (by decide +kernel)
theorem d_X12_looksForWhen_27 : decode prog_14_method_46_code 27 = .ok (.getfield 192, 3) := ge_getfield (by decide +kernel)
theorem d_X12_looksForWhen_30 : decode prog_14_method_46_code 30 = .ok (.if_icmp .le 7, 3) := ge_if_icmp_le (by decide +kernel)
theorem d_X12_looksForWhen_33 : decode prog_14_method_46_code 33 = .ok (.iload_n 2, 1) := ge_iload_n_2 (by decide +kernel)
theorem d_X12_looksForWhen_34 : decode prog_14_method_46_code 34 = .ok (.goto 7, 3) := ge_goto (by decide +kernel)
theorem d_X12_looksForWhen_37 : decode prog_14_method_46_code 37 = .ok (.aload_n 0, 1) := ge_aload_n_0 (by decide +kernel)
theorem d_X12_looksForWhen_38 : decode prog_14_method_46_code 38 = .ok (.getfield 189, 3) := ge_getfield (by decide +kernel)
theorem d_X12_looksForWhen_41 : decode prog_14_method_46_code 41 = .ok (.putfield 189, 3) := ge_putfield (by decide +kernel)
theorem d_X12_looksForWhen_44 : decode prog_14_method_46_code 44 = .ok (.aload_n 0, 1) := ge_aload_n_0 (by decide +kernel)
theorem d_X12_looksForWhen_45 : decode prog_14_method_46_code 45 = .ok (.iload_n 3, 1) := ge_iload_n_3 (by decide +kernel)
theorem d_X12_looksForWhen_46 : decode prog_14_method_46_code 46 = .ok (.aload_n 0, 1) := ge_aload_n_0 (by decide +kernel)
theorem d_X12_looksForWhen_47 : decode prog_14_method_46_code 47 = .ok (.getfield 192, 3) := ge_getfield (by decide +kernel)
theorem d_X12_looksForWhen_50 : decode prog_14_method_46_code 50 = .ok (.if_icmp .le 7, 3) := ge_if_icmp_le (by decide +kernel)
theorem d_X12_looksForWhen_53 : decode prog_14_method_46_code 53 = .ok (.iload_n 3, 1) := ge_iload_n_3 (by decide +kernel)
theorem d_X12_looksForWhen_54 : decode prog_14_method_46_code 54 = .ok (.goto 7, 3) := ge_goto (by decide +kernel)
theorem d_X12_looksForWhen_57 : decode prog_14_method_46_code 57 = .ok (.aload_n 0, 1) := ge_aload_n_0 (by decide +kernel)
theorem d_X12_looksForWhen_58 : decode prog_14_method_46_code 58 = .ok (.getfield 192, 3) := ge_getfield (by decide +kernel)
theorem d_X12_looksForWhen_61 : decode prog_14_method_46_code 61 = .ok (.putfield 192, 3) := ge_putfield (by decide +kernel)
theorem d_X12_looksForWhen_64 : decode prog_14_method_46_code 64 = .ok (.aload_n 0, 1) := ge_aload_n_0 (by decide +kernel)
theorem d_X12_looksForWhen_65 : decode prog_14_method_46_code 65 = .ok (.iload_n 1, 1) := ge_iload_n_1 (by decide +kernel)
theorem d_X12_looksForWhen_66 : decode prog_14_method_46_code 66 = .ok (.invokevirtual 195, 3) := ge_invokevirtual (by decide +kernel)
theorem d_X12_looksForWhen_69 : decode prog_14_method_46_code 69 = .ok (.iinc 2 1, 3) := ge_iinc (by decide +kernel)
theorem d_X12_looksForWhen_72 : decode prog_14_method_46_code 72 = .ok (.goto (-60), 3) := ge_goto (by decide +kernel)
theorem d_X12_looksForWhen_75 : decode prog_14_method_46_code 75 = .ok (.aload_n 0, 1) := ge_aload_n_0 (by decide +kernel)
theorem d_X12_looksForWhen_76 : decode prog_14_method_46_code 76 = .ok (.invokevirtual 186, 3) := ge_invokevirtual (by decide +kernel)
theorem d_X12_looksForWhen_79 : decode prog_14_method_46_code 79 = .ok (.return_, 1) := ge_return_ (by decide +kernel)
def f_X12_looksForWhen (a0 : Nat) (a1 : Int32) (μ : gm_M) : Option (Option Value × gm_M) := gm_pI μ [17] a0 12 (0 : Int32) (fun m1 => gm_pI m1 [17] a0 13 (-1 : Int32) (fun m2 => gm_loop (fun (s3 : Int32 × gm_M) => if (60 : Int32) < s3.1 then if gm_tag s3.2 a0 = 17 then gm_bV (f_X12_goesBack a0 s3.2) (fun m4 => some (Sum.inr (none, m4))) else none else if gm_tag s3.2 a0 = 17 then gm_bI (f_X12_holdsOf a0 a1 s3.2) (fun x7 m6 => gm_gI m6 [17] a0 13 (fun v8 => gm_j (fun (s9 : Int32) => gm_pI m6 [17] a0 12 s9 (fun m11 => gm_gI m11 [17] a0 13 (fun v12 => gm_j (fun (s13 : Int32) => gm_pI m11 [17] a0 13 s13 (fun m15 => if gm_tag m15 a0 = 17 then gm_bV (f_X12_goesAlone a0 a1 m15) (fun m16 => some (Sum.inl ((s3.1 + (1 : Int32)), m16))) else none)) (fun j14 => if x7 ≤ v12 then gm_gI m11 [17] a0 13 (fun v18 => j14 v18) else j14 x7)))) (fun j10 => if x7 ≤ v8 then gm_gI m6 [17] a0 12 (fun v19 => j10 v19) else j10 s3.1))) else none) 5000 ((0 : Int32), m2)))
set_option maxHeartbeats 4000000 in
theorem c_X12_looksForWhen (a0 : Nat) (a1 : Int32) (μ : gm_M) : gm_Call ({ cls := "GumBubbleModel", name := "looksForWhen", desc := "(I)V" } : Jvm.MethodName) prog_14_method_46_code 4 none 4 0 0 [.ref a0, .int a1] μ (f_X12_looksForWhen a0 a1 μ) := by
  refine gm_start PN_12 (Nat.le_of_ble_eq_true rfl) (fun res μe => ?_)
  unfold f_X12_looksForWhen
  show gm_A "GumBubbleModel" (gm_nm "looksForWhen") _ _ _ _ _ _ _ _ _ 0 [(0, .ref a0), (1, .int a1)] [] _ _
  refine gm_aload_n d_X12_looksForWhen_0 rfl 0 rfl ?_
  refine gm_iconst (v := 0) d_X12_looksForWhen_1 (by decide) ?_
  refine gm_putI F_12_bestWhen (Or.inl rfl) gw_901 d_X12_looksForWhen_2 (fun m1 _ => ?_)
  refine gm_aload_n d_X12_looksForWhen_5 rfl 0 rfl ?_
  refine gm_iconst (v := -1) d_X12_looksForWhen_6 (by decide) ?_
  refine gm_putI F_12_mostHeld (Or.inl rfl) gw_902 d_X12_looksForWhen_7 (fun m2 _ => ?_)
  refine gm_iconst (v := 0) d_X12_looksForWhen_10 (by decide) ?_
  refine gm_istore_n (L' := [(2, .int (0 : Int32)), (0, .ref a0), (1, .int a1)]) d_X12_looksForWhen_11 rfl (Nat.le_of_ble_eq_true rfl) rfl ?_
  refine gm_sub (L' := [(0, .ref a0), (1, .int a1), (2, .int (0 : Int32))]) [1, 2, 0] rfl ?_
  refine gm_lp (S := Int32 × gm_M) (fun _ => 0) (fun _ => 0) (fun s3 => s3.2) (fun s3 => [(0, .ref a0), (1, .int a1), (2, .int s3.1)]) (fun _ => []) (fun s3 => ?_) 5000 ((0 : Int32), m2)
  refine gm_iload_n d_X12_looksForWhen_12 rfl 2 rfl ?_
  refine gm_bipush (v := 60) d_X12_looksForWhen_13 (by decide) ?_
  refine gm_icmp_gt (tgt := 75) d_X12_looksForWhen_15 (by decide) (fun h15 => ?_) (fun h15 => ?_)
  ·
    refine gm_aload_n d_X12_looksForWhen_75 rfl 0 rfl ?_
    refine gm_grd (fun g76 => ?_)
    refine gm_callV (k0 := 12) [] (c_X12_goesBack a0 s3.2) g76 rfl B_X12_goesBack gw_1130 gs_53 rfl rfl rfl d_X12_looksForWhen_76 (gm_kV (fun m4 => ?_))
    exact gm_vret rfl d_X12_looksForWhen_79 (Nat.le_of_ble_eq_true rfl) (Nat.le_of_ble_eq_true rfl) (fun h => h)
  ·
    refine gm_aload_n d_X12_looksForWhen_18 rfl 0 rfl ?_
    refine gm_iload_n d_X12_looksForWhen_19 rfl 1 rfl ?_
    refine gm_grd (fun g20 => ?_)
    refine gm_callV (k0 := 12) [.int a1] (c_X12_holdsOf a0 a1 s3.2) g20 rfl B_X12_holdsOf gw_1074 gs_45 rfl rfl rfl d_X12_looksForWhen_20 (gm_kI (fun x7 m6 => ?_))
    refine gm_istore_n (L' := [(3, .int x7), (0, .ref a0), (1, .int a1), (2, .int s3.1)]) d_X12_looksForWhen_23 rfl (Nat.le_of_ble_eq_true rfl) rfl ?_
    refine gm_aload_n d_X12_looksForWhen_24 rfl 1 rfl ?_
    refine gm_iload_n d_X12_looksForWhen_25 rfl 0 rfl ?_
    refine gm_aload_n d_X12_looksForWhen_26 rfl 1 rfl ?_
    refine gm_getI F_12_mostHeld gw_902 d_X12_looksForWhen_27 (fun v8 _ => ?_)
    refine gm_join (S := Int32) (pj := 41) (kj := 0) (nj := 0) (fun s9 => m6) (fun s9 => [(0, .ref a0), (1, .int a1), (2, .int s3.1), (3, .int x7)]) (fun s9 => [.int s9, .ref a0]) (fun s9 => ?_) (fun j10 hj10 => ?_)
    ·
      refine gm_putI F_12_bestWhen (Or.inl rfl) gw_901 d_X12_looksForWhen_41 (fun m11 _ => ?_)
      refine gm_aload_n d_X12_looksForWhen_44 rfl 0 rfl ?_
      refine gm_iload_n d_X12_looksForWhen_45 rfl 3 rfl ?_
      refine gm_aload_n d_X12_looksForWhen_46 rfl 0 rfl ?_
      refine gm_getI F_12_mostHeld gw_902 d_X12_looksForWhen_47 (fun v12 _ => ?_)
      refine gm_join (S := Int32) (pj := 61) (kj := 0) (nj := 0) (fun s13 => m11) (fun s13 => [(0, .ref a0), (1, .int a1), (2, .int s3.1), (3, .int x7)]) (fun s13 => [.int s13, .ref a0]) (fun s13 => ?_) (fun j14 hj14 => ?_)
      ·
        refine gm_putI F_12_mostHeld (Or.inl rfl) gw_902 d_X12_looksForWhen_61 (fun m15 _ => ?_)
        refine gm_aload_n d_X12_looksForWhen_64 rfl 0 rfl ?_
        refine gm_iload_n d_X12_looksForWhen_65 rfl 1 rfl ?_
        refine gm_grd (fun g66 => ?_)
        refine gm_callV (k0 := 12) [.int a1] (c_X12_goesAlone a0 a1 m15) g66 rfl B_X12_goesAlone gw_1142 gs_55 rfl rfl rfl d_X12_looksForWhen_66 (gm_kV (fun m16 => ?_))
        refine gm_iinc (v := s3.1 + (1 : Int32)) (L' := [(2, .int (s3.1 + (1 : Int32))), (0, .ref a0), (1, .int a1), (3, .int x7)]) d_X12_looksForWhen_69 2 rfl rfl (Nat.le_of_ble_eq_true rfl) rfl ?_
        refine gm_goto (tgt := 12) d_X12_looksForWhen_72 (by decide) ?_
        refine gm_sub (L' := [(0, .ref a0), (1, .int a1), (2, .int (s3.1 + (1 : Int32)))]) [1, 2, 0] rfl ?_
        exact gm_back (fun h => h)
      ·
        refine gm_icmp_le (tgt := 57) d_X12_looksForWhen_50 (by decide) (fun h50 => ?_) (fun h50 => ?_)
        ·
          refine gm_aload_n d_X12_looksForWhen_57 rfl 0 rfl ?_
          refine gm_getI F_12_mostHeld gw_902 d_X12_looksForWhen_58 (fun v18 _ => ?_)
          exact hj14 v18
        ·
          refine gm_iload_n d_X12_looksForWhen_53 rfl 3 rfl ?_
          refine gm_goto (tgt := 61) d_X12_looksForWhen_54 (by decide) ?_
          exact hj14 x7
    ·
      refine gm_icmp_le (tgt := 37) d_X12_looksForWhen_30 (by decide) (fun h30 => ?_) (fun h30 => ?_)
      ·
        refine gm_aload_n d_X12_looksForWhen_37 rfl 1 rfl ?_
        refine gm_getI F_12_bestWhen gw_901 d_X12_looksForWhen_38 (fun v19 _ => ?_)
        refine gm_sub (L' := [(0, .ref a0), (1, .int a1), (2, .int s3.1), (3, .int x7)]) [1, 2, 3, 0] rfl ?_
        exact hj10 v19
      ·
        refine gm_iload_n d_X12_looksForWhen_33 rfl 3 rfl ?_
        refine gm_goto (tgt := 41) d_X12_looksForWhen_34 (by decide) ?_
        refine gm_sub (L' := [(0, .ref a0), (1, .int a1), (2, .int s3.1), (3, .int x7)]) [1, 2, 3, 0] rfl ?_
        exact hj10 s3.1
theorem d_X12_mean_0 : decode prog_14_method_72_code 0 = .ok (.iload_n 1, 1) := ge_iload_n_1 (by decide +kernel)
theorem d_X12_mean_1 : decode prog_14_method_72_code 1 = .ok (.iconst 0, 1) := ge_iconst_0 (by decide +kernel)
theorem d_X12_mean_2 : decode prog_14_method_72_code 2 = .ok (.bipush 60, 2) := ge_bipush (by decide +kernel)
theorem d_X12_mean_4 : decode prog_14_method_72_code 4 = .ok (.invokestatic 44, 3) := ge_invokestatic (by decide +kernel)
theorem d_X12_mean_7 : decode prog_14_method_72_code 7 = .ok (.ifCond .eq 22, 3) := ge_ifCond_eq (by decide +kernel)
theorem d_X12_mean_10 : decode prog_14_method_72_code 10 = .ok (.iload_n 2, 1) := ge_iload_n_2 (by decide +kernel)
theorem d_X12_mean_11 : decode prog_14_method_72_code 11 = .ok (.iconst 0, 1) := ge_iconst_0 (by decide +kernel)
theorem d_X12_mean_12 : decode prog_14_method_72_code 12 = .ok (.iconst 1, 1) := ge_iconst_1 (by decide +kernel)
theorem d_X12_mean_13 : decode prog_14_method_72_code 13 = .ok (.invokestatic 44, 3) := ge_invokestatic (by decide +kernel)
theorem d_X12_mean_16 : decode prog_14_method_72_code 16 = .ok (.ifCond .eq 13, 3) := ge_ifCond_eq (by decide +kernel)
theorem d_X12_mean_19 : decode prog_14_method_72_code 19 = .ok (.aload_n 0, 1) := ge_aload_n_0 (by decide +kernel)
theorem d_X12_mean_20 : decode prog_14_method_72_code 20 = .ok (.getfield 9, 3) := ge_getfield (by decide +kernel)
theorem d_X12_mean_23 : decode prog_14_method_72_code 23 = .ok (.bipush 26, 2) := ge_bipush (by decide +kernel)
theorem d_X12_mean_25 : decode prog_14_method_72_code 25 = .ok (.iaload, 1) := ge_iaload (by decide +kernel)
theorem d_X12_mean_26 : decode prog_14_method_72_code 26 = .ok (.ifCond .ne 7, 3) := ge_ifCond_ne (by decide +kernel)
theorem d_X12_mean_29 : decode prog_14_method_72_code 29 = .ok (.ldc2_w 207, 3) := ge_ldc2_w (by decide +kernel)
theorem d_X12_mean_32 : decode prog_14_method_72_code 32 = .ok (.lreturn, 1) := ge_lreturn (by decide +kernel)
theorem d_X12_mean_33 : decode prog_14_method_72_code 33 = .ok (.aload_n 0, 1) := ge_aload_n_0 (by decide +kernel)
theorem d_X12_mean_34 : decode prog_14_method_72_code 34 = .ok (.invokevirtual 183, 3) := ge_invokevirtual (by decide +kernel)
theorem d_X12_mean_37 : decode prog_14_method_72_code 37 = .ok (.aload_n 0, 1) := ge_aload_n_0 (by decide +kernel)
theorem d_X12_mean_38 : decode prog_14_method_72_code 38 = .ok (.iload_n 1, 1) := ge_iload_n_1 (by decide +kernel)
theorem d_X12_mean_39 : decode prog_14_method_72_code 39 = .ok (.invokevirtual 180, 3) := ge_invokevirtual (by decide +kernel)
theorem d_X12_mean_42 : decode prog_14_method_72_code 42 = .ok (.aload_n 0, 1) := ge_aload_n_0 (by decide +kernel)
theorem d_X12_mean_43 : decode prog_14_method_72_code 43 = .ok (.invokevirtual 164, 3) := ge_invokevirtual (by decide +kernel)
theorem d_X12_mean_46 : decode prog_14_method_72_code 46 = .ok (.istore_n 3, 1) := ge_istore_n_3 (by decide +kernel)
theorem d_X12_mean_47 : decode prog_14_method_72_code 47 = .ok (.aload_n 0, 1) := ge_aload_n_0 (by decide +kernel)
theorem d_X12_mean_48 : decode prog_14_method_72_code 48 = .ok (.invokevirtual 186, 3) := ge_invokevirtual (by decide +kernel)
theorem d_X12_mean_51 : decode prog_14_method_72_code 51 = .ok (.iload_n 3, 1) := ge_iload_n_3 (by decide +kernel)
theorem d_X12_mean_52 : decode prog_14_method_72_code 52 = .ok (.i2l, 1) := ge_i2l (by decide +kernel)
theorem d_X12_mean_53 : decode prog_14_method_72_code 53 = .ok (.aload_n 0, 1) := ge_aload_n_0 (by decide +kernel)
theorem d_X12_mean_54 : decode prog_14_method_72_code 54 = .ok (.getfield 9, 3) := ge_getfield (by decide +kernel)
theorem d_X12_mean_57 : decode prog_14_method_72_code 57 = .ok (.bipush 26, 2) := ge_bipush (by decide +kernel)
theorem d_X12_mean_59 : decode prog_14_method_72_code 59 = .ok (.iaload, 1) := ge_iaload (by decide +kernel)
theorem d_X12_mean_60 : decode prog_14_method_72_code 60 = .ok (.i2l, 1) := ge_i2l (by decide +kernel)
theorem d_X12_mean_61 : decode prog_14_method_72_code 61 = .ok (.iload_n 2, 1) := ge_iload_n_2 (by decide +kernel)
theorem d_X12_mean_62 : decode prog_14_method_72_code 62 = .ok (.invokestatic 214, 3) := ge_invokestatic (by decide +kernel)
theorem d_X12_mean_65 : decode prog_14_method_72_code 65 = .ok (.lreturn, 1) := ge_lreturn (by decide +kernel)
def f_X12_mean (a0 : Nat) (a1 : Int32) (a2 : Int32) (μ : gm_M) : Option (Option Value × gm_M) := gm_bI (f_X12_in a1 (0 : Int32) (60 : Int32) μ) (fun x2 m1 => gm_j (fun (s3 : gm_M) => some (some (.long (-9223372036854775808 : Int64)), s3)) (fun j4 => if x2 = 0 then j4 m1 else gm_bI (f_X12_in a2 (0 : Int32) (1 : Int32) m1) (fun x6 m5 => if x6 = 0 then j4 m5 else gm_gR m5 [17] a0 1 (fun v7 => gm_aI m5 v7 (26 : Int32) (fun v8 => if v8 ≠ 0 then if gm_tag m5 a0 = 17 then gm_bV (f_X12_keeps a0 m5) (fun m9 => if gm_tag m9 a0 = 17 then gm_bV (f_X12_goesOn a0 a1 m9) (fun m11 => if gm_tag m11 a0 = 17 then gm_bI (f_X12_allHold a0 m11) (fun x14 m13 => if gm_tag m13 a0 = 17 then gm_bV (f_X12_goesBack a0 m13) (fun m15 => gm_gR m15 [17] a0 1 (fun v17 => gm_aI m15 v17 (26 : Int32) (fun v18 => gm_bL (f_X12_lowest (Int32.toInt64 x14) (Int32.toInt64 v18) a2 m15) (fun x20 m19 => some (some (.long x20), m19))))) else none) else none) else none) else none else j4 m5)))))
set_option maxHeartbeats 4000000 in
theorem c_X12_mean (a0 : Nat) (a1 : Int32) (a2 : Int32) (μ : gm_M) : gm_Call ({ cls := "GumBubbleModel", name := "mean", desc := "(II)J" } : Jvm.MethodName) prog_14_method_72_code 4 (some .long) 5 0 0 [.ref a0, .int a1, .int a2] μ (f_X12_mean a0 a1 a2 μ) := by
  refine gm_start PN_12 (Nat.le_of_ble_eq_true rfl) (fun res μe => ?_)
  unfold f_X12_mean
  show gm_A "GumBubbleModel" (gm_nm "mean") _ _ _ _ _ _ _ _ _ 0 [(0, .ref a0), (1, .int a1), (2, .int a2)] [] _ _
  refine gm_iload_n d_X12_mean_0 rfl 1 rfl ?_
  refine gm_iconst (v := 0) d_X12_mean_1 (by decide) ?_
  refine gm_bipush (v := 60) d_X12_mean_2 (by decide) ?_
  refine gm_callS [.int a1, .int (0 : Int32), .int (60 : Int32)] (c_X12_in a1 (0 : Int32) (60 : Int32) μ) B_X12_in gw_964 rfl rfl rfl d_X12_mean_4 (gm_kI (fun x2 m1 => ?_))
  refine gm_join (S := gm_M) (pj := 29) (kj := 0) (nj := 0) (fun s3 => s3) (fun s3 => [(0, .ref a0), (1, .int a1), (2, .int a2)]) (fun s3 => []) (fun s3 => ?_) (fun j4 hj4 => ?_)
  ·
    refine gm_ldc2 (v := -9223372036854775808) gw_1170 d_X12_mean_29 ?_
    exact gm_lret rfl d_X12_mean_32 (Nat.le_of_ble_eq_true rfl) (Nat.le_of_ble_eq_true rfl) (fun h => h)
  ·
    refine gm_if_eq (tgt := 29) d_X12_mean_7 (by decide) (fun h7 => ?_) (fun h7 => ?_)
    ·
      exact hj4 m1
    ·
      refine gm_iload_n d_X12_mean_10 rfl 2 rfl ?_
      refine gm_iconst (v := 0) d_X12_mean_11 (by decide) ?_
      refine gm_iconst (v := 1) d_X12_mean_12 (by decide) ?_
      refine gm_callS [.int a2, .int (0 : Int32), .int (1 : Int32)] (c_X12_in a2 (0 : Int32) (1 : Int32) m1) B_X12_in gw_964 rfl rfl rfl d_X12_mean_13 (gm_kI (fun x6 m5 => ?_))
      refine gm_if_eq (tgt := 29) d_X12_mean_16 (by decide) (fun h16 => ?_) (fun h16 => ?_)
      ·
        exact hj4 m5
      ·
        refine gm_aload_n d_X12_mean_19 rfl 0 rfl ?_
        refine gm_getR F_12_s gw_890 d_X12_mean_20 (fun v7 _ => ?_)
        refine gm_bipush (v := 26) d_X12_mean_23 (by decide) ?_
        refine gm_iald d_X12_mean_25 (fun v8 _ => ?_)
        refine gm_if_ne (tgt := 33) d_X12_mean_26 (by decide) (fun h26 => ?_) (fun h26 => ?_)
        ·
          refine gm_aload_n d_X12_mean_33 rfl 0 rfl ?_
          refine gm_grd (fun g34 => ?_)
          refine gm_callV (k0 := 12) [] (c_X12_keeps a0 m5) g34 rfl B_X12_keeps gw_1126 gs_52 rfl rfl rfl d_X12_mean_34 (gm_kV (fun m9 => ?_))
          refine gm_aload_n d_X12_mean_37 rfl 0 rfl ?_
          refine gm_iload_n d_X12_mean_38 rfl 1 rfl ?_
          refine gm_grd (fun g39 => ?_)
          refine gm_callV (k0 := 12) [.int a1] (c_X12_goesOn a0 a1 m9) g39 rfl B_X12_goesOn gw_1110 gs_49 rfl rfl rfl d_X12_mean_39 (gm_kV (fun m11 => ?_))
          refine gm_aload_n d_X12_mean_42 rfl 0 rfl ?_
          refine gm_grd (fun g43 => ?_)
          refine gm_callV (k0 := 12) [] (c_X12_allHold a0 m11) g43 rfl B_X12_allHold gw_1090 gs_46 rfl rfl rfl d_X12_mean_43 (gm_kI (fun x14 m13 => ?_))
          refine gm_istore_n (L' := [(3, .int x14), (0, .ref a0), (1, .int a1), (2, .int a2)]) d_X12_mean_46 rfl (Nat.le_of_ble_eq_true rfl) rfl ?_
          refine gm_aload_n d_X12_mean_47 rfl 1 rfl ?_
          refine gm_grd (fun g48 => ?_)
          refine gm_callV (k0 := 12) [] (c_X12_goesBack a0 m13) g48 rfl B_X12_goesBack gw_1130 gs_53 rfl rfl rfl d_X12_mean_48 (gm_kV (fun m15 => ?_))
          refine gm_iload_n d_X12_mean_51 rfl 0 rfl ?_
          refine gm_i2l d_X12_mean_52 ?_
          refine gm_aload_n d_X12_mean_53 rfl 1 rfl ?_
          refine gm_getR F_12_s gw_890 d_X12_mean_54 (fun v17 _ => ?_)
          refine gm_bipush (v := 26) d_X12_mean_57 (by decide) ?_
          refine gm_iald d_X12_mean_59 (fun v18 _ => ?_)
          refine gm_i2l d_X12_mean_60 ?_
          refine gm_iload_n d_X12_mean_61 rfl 3 rfl ?_
          refine gm_callS [.long (Int32.toInt64 x14), .long (Int32.toInt64 v18), .int a2] (c_X12_lowest (Int32.toInt64 x14) (Int32.toInt64 v18) a2 m15) B_X12_lowest gw_1178 rfl rfl rfl d_X12_mean_62 (gm_kL (fun x20 m19 => ?_))
          exact gm_lret rfl d_X12_mean_65 (Nat.le_of_ble_eq_true rfl) (Nat.le_of_ble_eq_true rfl) (fun h => h)
        ·
          exact hj4 m5
theorem d_X12_of_0 : decode prog_14_method_33_code 0 = .ok (.aload_n 0, 1) := ge_aload_n_0 (by decide +kernel)
theorem d_X12_of_1 : decode prog_14_method_33_code 1 = .ok (.iload_n 1, 1) := ge_iload_n_1 (by decide +kernel)
theorem d_X12_of_2 : decode prog_14_method_33_code 2 = .ok (.invokevirtual 154, 3) := ge_invokevirtual (by decide +kernel)
theorem d_X12_of_5 : decode prog_14_method_33_code 5 = .ok (.ifCond .eq 13, 3) := ge_ifCond_eq (by decide +kernel)
theorem d_X12_of_8 : decode prog_14_method_33_code 8 = .ok (.iload_n 2, 1) := ge_iload_n_2 (by decide +kernel)
theorem d_X12_of_9 : decode prog_14_method_33_code 9 = .ok (.iconst 0, 1) := ge_iconst_0 (by decide +kernel)
theorem d_X12_of_10 : decode prog_14_method_33_code 10 = .ok (.bipush 10, 2) := ge_bipush (by decide +kernel)
theorem d_X12_of_12 : decode prog_14_method_33_code 12 = .ok (.invokestatic 44, 3) := ge_invokestatic (by decide +kernel)
theorem d_X12_of_15 : decode prog_14_method_33_code 15 = .ok (.ifCond .ne 5, 3) := ge_ifCond_ne (by decide +kernel)
theorem d_X12_of_18 : decode prog_14_method_33_code 18 = .ok (.iconst (-1), 1) := ge_iconst_m1_ (by decide +kernel)
theorem d_X12_of_19 : decode prog_14_method_33_code 19 = .ok (.ireturn, 1) := ge_ireturn (by decide +kernel)
theorem d_X12_of_20 : decode prog_14_method_33_code 20 = .ok (.iload_n 2, 1) := ge_iload_n_2 (by decide +kernel)
theorem d_X12_of_21 : decode prog_14_method_33_code 21 = .ok (.tableswitch 103 0 10 #[59, 69, 103, 103, 103, 103, 103, 79, 85, 91, 97], 59) := by decide +kernel
theorem d_X12_of_80 : decode prog_14_method_33_code 80 = .ok (.aload_n 0, 1) := ge_aload_n_0 (by decide +kernel)
theorem d_X12_of_81 : decode prog_14_method_33_code 81 = .ok (.getfield 9, 3) := ge_getfield (by decide +kernel)
theorem d_X12_of_84 : decode prog_14_method_33_code 84 = .ok (.bipush 33, 2) := ge_bipush (by decide +kernel)
theorem d_X12_of_86 : decode prog_14_method_33_code 86 = .ok (.iload_n 1, 1) := ge_iload_n_1 (by decide +kernel)
theorem d_X12_of_87 : decode prog_14_method_33_code 87 = .ok (.iadd, 1) := ge_iadd (by decide +kernel)
theorem d_X12_of_88 : decode prog_14_method_33_code 88 = .ok (.iaload, 1) := ge_iaload (by decide +kernel)
theorem d_X12_of_89 : decode prog_14_method_33_code 89 = .ok (.ireturn, 1) := ge_ireturn (by decide +kernel)
theorem d_X12_of_90 : decode prog_14_method_33_code 90 = .ok (.aload_n 0, 1) := ge_aload_n_0 (by decide +kernel)
theorem d_X12_of_91 : decode prog_14_method_33_code 91 = .ok (.getfield 9, 3) := ge_getfield (by decide +kernel)
theorem d_X12_of_94 : decode prog_14_method_33_code 94 = .ok (.bipush 38, 2) := ge_bipush (by decide +kernel)
theorem d_X12_of_96 : decode prog_14_method_33_code 96 = .ok (.iload_n 1, 1) := ge_iload_n_1 (by decide +kernel)
theorem d_X12_of_97 : decode prog_14_method_33_code 97 = .ok (.iadd, 1) := ge_iadd (by decide +kernel)
theorem d_X12_of_98 : decode prog_14_method_33_code 98 = .ok (.iaload, 1) := ge_iaload (by decide +kernel)
theorem d_X12_of_99 : decode prog_14_method_33_code 99 = .ok (.ireturn, 1) := ge_ireturn (by decide +kernel)
theorem d_X12_of_100 : decode prog_14_method_33_code 100 = .ok (.aload_n 0, 1) := ge_aload_n_0 (by decide +kernel)
theorem d_X12_of_101 : decode prog_14_method_33_code 101 = .ok (.iload_n 1, 1) := ge_iload_n_1 (by decide +kernel)
theorem d_X12_of_102 : decode prog_14_method_33_code 102 = .ok (.invokevirtual 145, 3) := ge_invokevirtual (by decide +kernel)
theorem d_X12_of_105 : decode prog_14_method_33_code 105 = .ok (.ireturn, 1) := ge_ireturn (by decide +kernel)
theorem d_X12_of_106 : decode prog_14_method_33_code 106 = .ok (.aload_n 0, 1) := ge_aload_n_0 (by decide +kernel)
theorem d_X12_of_107 : decode prog_14_method_33_code 107 = .ok (.iload_n 1, 1) := ge_iload_n_1 (by decide +kernel)
theorem d_X12_of_108 : decode prog_14_method_33_code 108 = .ok (.invokevirtual 158, 3) := ge_invokevirtual (by decide +kernel)
theorem d_X12_of_111 : decode prog_14_method_33_code 111 = .ok (.ireturn, 1) := ge_ireturn (by decide +kernel)
theorem d_X12_of_112 : decode prog_14_method_33_code 112 = .ok (.aload_n 0, 1) := ge_aload_n_0 (by decide +kernel)
theorem d_X12_of_113 : decode prog_14_method_33_code 113 = .ok (.iload_n 1, 1) := ge_iload_n_1 (by decide +kernel)
theorem d_X12_of_114 : decode prog_14_method_33_code 114 = .ok (.invokevirtual 161, 3) := ge_invokevirtual (by decide +kernel)
theorem d_X12_of_117 : decode prog_14_method_33_code 117 = .ok (.ireturn, 1) := ge_ireturn (by decide +kernel)
theorem d_X12_of_118 : decode prog_14_method_33_code 118 = .ok (.aload_n 0, 1) := ge_aload_n_0 (by decide +kernel)
theorem d_X12_of_119 : decode prog_14_method_33_code 119 = .ok (.iload_n 1, 1) := ge_iload_n_1 (by decide +kernel)
theorem d_X12_of_120 : decode prog_14_method_33_code 120 = .ok (.invokevirtual 148, 3) := ge_invokevirtual (by decide +kernel)
theorem d_X12_of_123 : decode prog_14_method_33_code 123 = .ok (.ireturn, 1) := ge_ireturn (by decide +kernel)
theorem d_X12_of_124 : decode prog_14_method_33_code 124 = .ok (.aload_n 0, 1) := ge_aload_n_0 (by decide +kernel)
theorem d_X12_of_125 : decode prog_14_method_33_code 125 = .ok (.getfield 9, 3) := ge_getfield (by decide +kernel)
theorem d_X12_of_128 : decode prog_14_method_33_code 128 = .ok (.iconst 1, 1) := ge_iconst_1 (by decide +kernel)
theorem d_X12_of_129 : decode prog_14_method_33_code 129 = .ok (.iconst 5, 1) := ge_iconst_5 (by decide +kernel)
theorem d_X12_of_130 : decode prog_14_method_33_code 130 = .ok (.iload_n 2, 1) := ge_iload_n_2 (by decide +kernel)
theorem d_X12_of_131 : decode prog_14_method_33_code 131 = .ok (.iconst 2, 1) := ge_iconst_2 (by decide +kernel)
theorem d_X12_of_132 : decode prog_14_method_33_code 132 = .ok (.isub, 1) := ge_isub (by decide +kernel)
theorem d_X12_of_133 : decode prog_14_method_33_code 133 = .ok (.imul, 1) := ge_imul (by decide +kernel)
theorem d_X12_of_134 : decode prog_14_method_33_code 134 = .ok (.iadd, 1) := ge_iadd (by decide +kernel)
theorem d_X12_of_135 : decode prog_14_method_33_code 135 = .ok (.iload_n 1, 1) := ge_iload_n_1 (by decide +kernel)
theorem d_X12_of_136 : decode prog_14_method_33_code 136 = .ok (.iadd, 1) := ge_iadd (by decide +kernel)
theorem d_X12_of_137 : decode prog_14_method_33_code 137 = .ok (.iaload, 1) := ge_iaload (by decide +kernel)
theorem d_X12_of_138 : decode prog_14_method_33_code 138 = .ok (.ireturn, 1) := ge_ireturn (by decide +kernel)
def f_X12_of (a0 : Nat) (a1 : Int32) (a2 : Int32) (μ : gm_M) : Option (Option Value × gm_M) := if gm_tag μ a0 = 17 then gm_bI (f_X12_isChild a0 a1 μ) (fun x2 m1 => if x2 = 0 then some (some (.int (-1 : Int32)), m1) else gm_bI (f_X12_in a2 (0 : Int32) (10 : Int32) m1) (fun x4 m3 => if x4 ≠ 0 then if a2 = 0 then gm_gR m3 [17] a0 1 (fun v5 => gm_aI m3 v5 ((33 : Int32) + a1) (fun v6 => some (some (.int v6), m3))) else if a2 = 1 then gm_gR m3 [17] a0 1 (fun v7 => gm_aI m3 v7 ((38 : Int32) + a1) (fun v8 => some (some (.int v8), m3))) else if a2 = 7 then if gm_tag m3 a0 = 17 then gm_bI (f_X12_stretchOf a0 a1 m3) (fun x10 m9 => some (some (.int x10), m9)) else none else if a2 = 8 then if gm_tag m3 a0 = 17 then gm_bI (f_X12_chewsOf a0 a1 m3) (fun x12 m11 => some (some (.int x12), m11)) else none else if a2 = 9 then if gm_tag m3 a0 = 17 then gm_bI (f_X12_tiresOf a0 a1 m3) (fun x14 m13 => some (some (.int x14), m13)) else none else if a2 = 10 then if gm_tag m3 a0 = 17 then gm_bI (f_X12_holdsOf a0 a1 m3) (fun x16 m15 => some (some (.int x16), m15)) else none else gm_gR m3 [17] a0 1 (fun v17 => gm_aI m3 v17 (((1 : Int32) + ((5 : Int32) * (a2 - (2 : Int32)))) + a1) (fun v18 => some (some (.int v18), m3))) else some (some (.int (-1 : Int32)), m3))) else none
set_option maxHeartbeats 4000000 in
theorem c_X12_of (a0 : Nat) (a1 : Int32) (a2 : Int32) (μ : gm_M) : gm_Call ({ cls := "GumBubbleModel", name := "of", desc := "(II)I" } : Jvm.MethodName) prog_14_method_33_code 3 (some .int) 4 0 0 [.ref a0, .int a1, .int a2] μ (f_X12_of a0 a1 a2 μ) := by
  refine gm_start PN_12 (Nat.le_of_ble_eq_true rfl) (fun res μe => ?_)
  unfold f_X12_of
  show gm_A "GumBubbleModel" (gm_nm "of") _ _ _ _ _ _ _ _ _ 0 [(0, .ref a0), (1, .int a1), (2, .int a2)] [] _ _
  refine gm_aload_n d_X12_of_0 rfl 0 rfl ?_
  refine gm_iload_n d_X12_of_1 rfl 1 rfl ?_
  refine gm_grd (fun g2 => ?_)
  refine gm_callV (k0 := 12) [.int a1] (c_X12_isChild a0 a1 μ) g2 rfl B_X12_isChild gw_1047 gs_40 rfl rfl rfl d_X12_of_2 (gm_kI (fun x2 m1 => ?_))
  refine gm_if_eq (tgt := 18) d_X12_of_5 (by decide) (fun h5 => ?_) (fun h5 => ?_)
  ·
    refine gm_iconst (v := -1) d_X12_of_18 (by decide) ?_
    exact gm_iret rfl d_X12_of_19 (Nat.le_of_ble_eq_true rfl) (Nat.le_of_ble_eq_true rfl) (fun h => h)
  ·
    refine gm_iload_n d_X12_of_8 rfl 2 rfl ?_
    refine gm_iconst (v := 0) d_X12_of_9 (by decide) ?_
    refine gm_bipush (v := 10) d_X12_of_10 (by decide) ?_
    refine gm_callS [.int a2, .int (0 : Int32), .int (10 : Int32)] (c_X12_in a2 (0 : Int32) (10 : Int32) m1) B_X12_in gw_964 rfl rfl rfl d_X12_of_12 (gm_kI (fun x4 m3 => ?_))
    refine gm_if_ne (tgt := 20) d_X12_of_15 (by decide) (fun h15 => ?_) (fun h15 => ?_)
    ·
      refine gm_iload_n d_X12_of_20 rfl 2 rfl ?_
      refine gm_ite (P := a2 = 0) (fun h21_0 => ?_) (fun h21_0 => ?_)
      ·
        refine gm_swIn (v := 0) (off := 59) (tgt := 80) d_X12_of_21 (by rw [h21_0] <;> rfl) (by decide) (by decide) (by decide) (by decide) ?_
        refine gm_aload_n d_X12_of_80 rfl 0 rfl ?_
        refine gm_getR F_12_s gw_890 d_X12_of_81 (fun v5 _ => ?_)
        refine gm_bipush (v := 33) d_X12_of_84 (by decide) ?_
        refine gm_iload_n d_X12_of_86 rfl 1 rfl ?_
        refine gm_iadd d_X12_of_87 ?_
        refine gm_iald d_X12_of_88 (fun v6 _ => ?_)
        exact gm_iret rfl d_X12_of_89 (Nat.le_of_ble_eq_true rfl) (Nat.le_of_ble_eq_true rfl) (fun h => h)
      ·
        refine gm_ite (P := a2 = 1) (fun h21_1 => ?_) (fun h21_1 => ?_)
        ·
          refine gm_swIn (v := 1) (off := 69) (tgt := 90) d_X12_of_21 (by rw [h21_1] <;> rfl) (by decide) (by decide) (by decide) (by decide) ?_
          refine gm_aload_n d_X12_of_90 rfl 0 rfl ?_
          refine gm_getR F_12_s gw_890 d_X12_of_91 (fun v7 _ => ?_)
          refine gm_bipush (v := 38) d_X12_of_94 (by decide) ?_
          refine gm_iload_n d_X12_of_96 rfl 1 rfl ?_
          refine gm_iadd d_X12_of_97 ?_
          refine gm_iald d_X12_of_98 (fun v8 _ => ?_)
          exact gm_iret rfl d_X12_of_99 (Nat.le_of_ble_eq_true rfl) (Nat.le_of_ble_eq_true rfl) (fun h => h)
        ·
          refine gm_ite (P := a2 = 7) (fun h21_7 => ?_) (fun h21_7 => ?_)
          ·
            refine gm_swIn (v := 7) (off := 79) (tgt := 100) d_X12_of_21 (by rw [h21_7] <;> rfl) (by decide) (by decide) (by decide) (by decide) ?_
            refine gm_aload_n d_X12_of_100 rfl 0 rfl ?_
            refine gm_iload_n d_X12_of_101 rfl 1 rfl ?_
            refine gm_grd (fun g102 => ?_)
            refine gm_callV (k0 := 12) [.int a1] (c_X12_stretchOf a0 a1 m3) g102 rfl B_X12_stretchOf gw_1051 gs_41 rfl rfl rfl d_X12_of_102 (gm_kI (fun x10 m9 => ?_))
            exact gm_iret rfl d_X12_of_105 (Nat.le_of_ble_eq_true rfl) (Nat.le_of_ble_eq_true rfl) (fun h => h)
          ·
            refine gm_ite (P := a2 = 8) (fun h21_8 => ?_) (fun h21_8 => ?_)
            ·
              refine gm_swIn (v := 8) (off := 85) (tgt := 106) d_X12_of_21 (by rw [h21_8] <;> rfl) (by decide) (by decide) (by decide) (by decide) ?_
              refine gm_aload_n d_X12_of_106 rfl 0 rfl ?_
              refine gm_iload_n d_X12_of_107 rfl 1 rfl ?_
              refine gm_grd (fun g108 => ?_)
              refine gm_callV (k0 := 12) [.int a1] (c_X12_chewsOf a0 a1 m3) g108 rfl B_X12_chewsOf gw_1063 gs_43 rfl rfl rfl d_X12_of_108 (gm_kI (fun x12 m11 => ?_))
              exact gm_iret rfl d_X12_of_111 (Nat.le_of_ble_eq_true rfl) (Nat.le_of_ble_eq_true rfl) (fun h => h)
            ·
              refine gm_ite (P := a2 = 9) (fun h21_9 => ?_) (fun h21_9 => ?_)
              ·
                refine gm_swIn (v := 9) (off := 91) (tgt := 112) d_X12_of_21 (by rw [h21_9] <;> rfl) (by decide) (by decide) (by decide) (by decide) ?_
                refine gm_aload_n d_X12_of_112 rfl 0 rfl ?_
                refine gm_iload_n d_X12_of_113 rfl 1 rfl ?_
                refine gm_grd (fun g114 => ?_)
                refine gm_callV (k0 := 12) [.int a1] (c_X12_tiresOf a0 a1 m3) g114 rfl B_X12_tiresOf gw_1070 gs_44 rfl rfl rfl d_X12_of_114 (gm_kI (fun x14 m13 => ?_))
                exact gm_iret rfl d_X12_of_117 (Nat.le_of_ble_eq_true rfl) (Nat.le_of_ble_eq_true rfl) (fun h => h)
              ·
                refine gm_ite (P := a2 = 10) (fun h21_10 => ?_) (fun h21_10 => ?_)
                ·
                  refine gm_swIn (v := 10) (off := 97) (tgt := 118) d_X12_of_21 (by rw [h21_10] <;> rfl) (by decide) (by decide) (by decide) (by decide) ?_
                  refine gm_aload_n d_X12_of_118 rfl 0 rfl ?_
                  refine gm_iload_n d_X12_of_119 rfl 1 rfl ?_
                  refine gm_grd (fun g120 => ?_)
                  refine gm_callV (k0 := 12) [.int a1] (c_X12_holdsOf a0 a1 m3) g120 rfl B_X12_holdsOf gw_1074 gs_45 rfl rfl rfl d_X12_of_120 (gm_kI (fun x16 m15 => ?_))
                  exact gm_iret rfl d_X12_of_123 (Nat.le_of_ble_eq_true rfl) (Nat.le_of_ble_eq_true rfl) (fun h => h)
                ·
                  by_cases h21_2 : a2 = 2
                  ·
                    refine gm_swIn (v := 2) (off := 103) (tgt := 124) d_X12_of_21 (by rw [h21_2] <;> rfl) (by decide) (by decide) (by decide) (by decide) ?_
                    refine gm_aload_n d_X12_of_124 rfl 0 rfl ?_
                    refine gm_getR F_12_s gw_890 d_X12_of_125 (fun v17 _ => ?_)
                    refine gm_iconst (v := 1) d_X12_of_128 (by decide) ?_
                    refine gm_iconst (v := 5) d_X12_of_129 (by decide) ?_
                    refine gm_iload_n d_X12_of_130 rfl 2 rfl ?_
                    refine gm_iconst (v := 2) d_X12_of_131 (by decide) ?_
                    refine gm_isub d_X12_of_132 ?_
                    refine gm_imul d_X12_of_133 ?_
                    refine gm_iadd d_X12_of_134 ?_
                    refine gm_iload_n d_X12_of_135 rfl 1 rfl ?_
                    refine gm_iadd d_X12_of_136 ?_
                    refine gm_iald d_X12_of_137 (fun v18 _ => ?_)
                    exact gm_iret rfl d_X12_of_138 (Nat.le_of_ble_eq_true rfl) (Nat.le_of_ble_eq_true rfl) (fun h => h)
                  ·
                    by_cases h21_3 : a2 = 3
                    ·
                      refine gm_swIn (v := 3) (off := 103) (tgt := 124) d_X12_of_21 (by rw [h21_3] <;> rfl) (by decide) (by decide) (by decide) (by decide) ?_
                      refine gm_aload_n d_X12_of_124 rfl 0 rfl ?_
                      refine gm_getR F_12_s gw_890 d_X12_of_125 (fun v17 _ => ?_)
                      refine gm_iconst (v := 1) d_X12_of_128 (by decide) ?_
                      refine gm_iconst (v := 5) d_X12_of_129 (by decide) ?_
                      refine gm_iload_n d_X12_of_130 rfl 2 rfl ?_
                      refine gm_iconst (v := 2) d_X12_of_131 (by decide) ?_
                      refine gm_isub d_X12_of_132 ?_
                      refine gm_imul d_X12_of_133 ?_
                      refine gm_iadd d_X12_of_134 ?_
                      refine gm_iload_n d_X12_of_135 rfl 1 rfl ?_
                      refine gm_iadd d_X12_of_136 ?_
                      refine gm_iald d_X12_of_137 (fun v18 _ => ?_)
                      exact gm_iret rfl d_X12_of_138 (Nat.le_of_ble_eq_true rfl) (Nat.le_of_ble_eq_true rfl) (fun h => h)
                    ·
                      by_cases h21_4 : a2 = 4
                      ·
                        refine gm_swIn (v := 4) (off := 103) (tgt := 124) d_X12_of_21 (by rw [h21_4] <;> rfl) (by decide) (by decide) (by decide) (by decide) ?_
                        refine gm_aload_n d_X12_of_124 rfl 0 rfl ?_
                        refine gm_getR F_12_s gw_890 d_X12_of_125 (fun v17 _ => ?_)
                        refine gm_iconst (v := 1) d_X12_of_128 (by decide) ?_
                        refine gm_iconst (v := 5) d_X12_of_129 (by decide) ?_
                        refine gm_iload_n d_X12_of_130 rfl 2 rfl ?_
                        refine gm_iconst (v := 2) d_X12_of_131 (by decide) ?_
                        refine gm_isub d_X12_of_132 ?_
                        refine gm_imul d_X12_of_133 ?_
                        refine gm_iadd d_X12_of_134 ?_
                        refine gm_iload_n d_X12_of_135 rfl 1 rfl ?_
                        refine gm_iadd d_X12_of_136 ?_
                        refine gm_iald d_X12_of_137 (fun v18 _ => ?_)
                        exact gm_iret rfl d_X12_of_138 (Nat.le_of_ble_eq_true rfl) (Nat.le_of_ble_eq_true rfl) (fun h => h)
                      ·
                        by_cases h21_5 : a2 = 5
                        ·
                          refine gm_swIn (v := 5) (off := 103) (tgt := 124) d_X12_of_21 (by rw [h21_5] <;> rfl) (by decide) (by decide) (by decide) (by decide) ?_
                          refine gm_aload_n d_X12_of_124 rfl 0 rfl ?_
                          refine gm_getR F_12_s gw_890 d_X12_of_125 (fun v17 _ => ?_)
                          refine gm_iconst (v := 1) d_X12_of_128 (by decide) ?_
                          refine gm_iconst (v := 5) d_X12_of_129 (by decide) ?_
                          refine gm_iload_n d_X12_of_130 rfl 2 rfl ?_
                          refine gm_iconst (v := 2) d_X12_of_131 (by decide) ?_
                          refine gm_isub d_X12_of_132 ?_
                          refine gm_imul d_X12_of_133 ?_
                          refine gm_iadd d_X12_of_134 ?_
                          refine gm_iload_n d_X12_of_135 rfl 1 rfl ?_
                          refine gm_iadd d_X12_of_136 ?_
                          refine gm_iald d_X12_of_137 (fun v18 _ => ?_)
                          exact gm_iret rfl d_X12_of_138 (Nat.le_of_ble_eq_true rfl) (Nat.le_of_ble_eq_true rfl) (fun h => h)
                        ·
                          by_cases h21_6 : a2 = 6
                          ·
                            refine gm_swIn (v := 6) (off := 103) (tgt := 124) d_X12_of_21 (by rw [h21_6] <;> rfl) (by decide) (by decide) (by decide) (by decide) ?_
                            refine gm_aload_n d_X12_of_124 rfl 0 rfl ?_
                            refine gm_getR F_12_s gw_890 d_X12_of_125 (fun v17 _ => ?_)
                            refine gm_iconst (v := 1) d_X12_of_128 (by decide) ?_
                            refine gm_iconst (v := 5) d_X12_of_129 (by decide) ?_
                            refine gm_iload_n d_X12_of_130 rfl 2 rfl ?_
                            refine gm_iconst (v := 2) d_X12_of_131 (by decide) ?_
                            refine gm_isub d_X12_of_132 ?_
                            refine gm_imul d_X12_of_133 ?_
                            refine gm_iadd d_X12_of_134 ?_
                            refine gm_iload_n d_X12_of_135 rfl 1 rfl ?_
                            refine gm_iadd d_X12_of_136 ?_
                            refine gm_iald d_X12_of_137 (fun v18 _ => ?_)
                            exact gm_iret rfl d_X12_of_138 (Nat.le_of_ble_eq_true rfl) (Nat.le_of_ble_eq_true rfl) (fun h => h)
                          ·
                            refine gm_swOut (tgt := 124) d_X12_of_21 (by have g0 := lv_neT h21_0 (show (0 : Int32).toInt = 0 from rfl); have g1 := lv_neT h21_1 (show (1 : Int32).toInt = 1 from rfl); have g7 := lv_neT h21_7 (show (7 : Int32).toInt = 7 from rfl); have g8 := lv_neT h21_8 (show (8 : Int32).toInt = 8 from rfl); have g9 := lv_neT h21_9 (show (9 : Int32).toInt = 9 from rfl); have g10 := lv_neT h21_10 (show (10 : Int32).toInt = 10 from rfl); have g2 := lv_neT h21_2 (show (2 : Int32).toInt = 2 from rfl); have g3 := lv_neT h21_3 (show (3 : Int32).toInt = 3 from rfl); have g4 := lv_neT h21_4 (show (4 : Int32).toInt = 4 from rfl); have g5 := lv_neT h21_5 (show (5 : Int32).toInt = 5 from rfl); have g6 := lv_neT h21_6 (show (6 : Int32).toInt = 6 from rfl); omega) (by decide) ?_
                            refine gm_aload_n d_X12_of_124 rfl 0 rfl ?_
                            refine gm_getR F_12_s gw_890 d_X12_of_125 (fun v17 _ => ?_)
                            refine gm_iconst (v := 1) d_X12_of_128 (by decide) ?_
                            refine gm_iconst (v := 5) d_X12_of_129 (by decide) ?_
                            refine gm_iload_n d_X12_of_130 rfl 2 rfl ?_
                            refine gm_iconst (v := 2) d_X12_of_131 (by decide) ?_
                            refine gm_isub d_X12_of_132 ?_
                            refine gm_imul d_X12_of_133 ?_
                            refine gm_iadd d_X12_of_134 ?_
                            refine gm_iload_n d_X12_of_135 rfl 1 rfl ?_
                            refine gm_iadd d_X12_of_136 ?_
                            refine gm_iald d_X12_of_137 (fun v18 _ => ?_)
                            exact gm_iret rfl d_X12_of_138 (Nat.le_of_ble_eq_true rfl) (Nat.le_of_ble_eq_true rfl) (fun h => h)
    ·
      refine gm_iconst (v := -1) d_X12_of_18 (by decide) ?_
      exact gm_iret rfl d_X12_of_19 (Nat.le_of_ble_eq_true rfl) (Nat.le_of_ble_eq_true rfl) (fun h => h)
theorem d_X12_on_0 : decode prog_14_method_45_code 0 = .ok (.iload_n 2, 1) := ge_iload_n_2 (by decide +kernel)
theorem d_X12_on_1 : decode prog_14_method_45_code 1 = .ok (.ifCond .eq 27, 3) := ge_ifCond_eq (by decide +kernel)
theorem d_X12_on_4 : decode prog_14_method_45_code 4 = .ok (.aload_n 0, 1) := ge_aload_n_0 (by decide +kernel)
theorem d_X12_on_5 : decode prog_14_method_45_code 5 = .ok (.iload_n 2, 1) := ge_iload_n_2 (by decide +kernel)
theorem d_X12_on_6 : decode prog_14_method_45_code 6 = .ok (.bipush 10, 2) := ge_bipush (by decide +kernel)
theorem d_X12_on_8 : decode prog_14_method_45_code 8 = .ok (.isub, 1) := ge_isub (by decide +kernel)
theorem d_X12_on_9 : decode prog_14_method_45_code 9 = .ok (.invokevirtual 154, 3) := ge_invokevirtual (by decide +kernel)
theorem d_X12_on_12 : decode prog_14_method_45_code 12 = .ok (.ifCond .ne 16, 3) := ge_ifCond_ne (by decide +kernel)
theorem d_X12_on_15 : decode prog_14_method_45_code 15 = .ok (.aload_n 0, 1) := ge_aload_n_0 (by decide +kernel)
theorem d_X12_on_16 : decode prog_14_method_45_code 16 = .ok (.iload_n 2, 1) := ge_iload_n_2 (by decide +kernel)
theorem d_X12_on_17 : decode prog_14_method_45_code 17 = .ok (.bipush 20, 2) := ge_bipush (by decide +kernel)
theorem d_X12_on_19 : decode prog_14_method_45_code 19 = .ok (.isub, 1) := ge_isub (by decide +kernel)
theorem d_X12_on_20 : decode prog_14_method_45_code 20 = .ok (.invokevirtual 154, 3) := ge_invokevirtual (by decide +kernel)
theorem d_X12_on_23 : decode prog_14_method_45_code 23 = .ok (.ifCond .ne 5, 3) := ge_ifCond_ne (by decide +kernel)
theorem d_X12_on_26 : decode prog_14_method_45_code 26 = .ok (.iconst (-1), 1) := ge_iconst_m1_ (by decide +kernel)
theorem d_X12_on_27 : decode prog_14_method_45_code 27 = .ok (.ireturn, 1) := ge_ireturn (by decide +kernel)
theorem d_X12_on_28 : decode prog_14_method_45_code 28 = .ok (.iload_n 1, 1) := ge_iload_n_1 (by decide +kernel)
theorem d_X12_on_29 : decode prog_14_method_45_code 29 = .ok (.iconst 0, 1) := ge_iconst_0 (by decide +kernel)
theorem d_X12_on_30 : decode prog_14_method_45_code 30 = .ok (.bipush 60, 2) := ge_bipush (by decide +kernel)
theorem d_X12_on_32 : decode prog_14_method_45_code 32 = .ok (.invokestatic 44, 3) := ge_invokestatic (by decide +kernel)
theorem d_X12_on_35 : decode prog_14_method_45_code 35 = .ok (.ifCond .ne 6, 3) := ge_ifCond_ne (by decide +kernel)
theorem d_X12_on_38 : decode prog_14_method_45_code 38 = .ok (.bipush (-2), 2) := ge_bipush (by decide +kernel)
theorem d_X12_on_40 : decode prog_14_method_45_code 40 = .ok (.ireturn, 1) := ge_ireturn (by decide +kernel)
theorem d_X12_on_41 : decode prog_14_method_45_code 41 = .ok (.aload_n 0, 1) := ge_aload_n_0 (by decide +kernel)
theorem d_X12_on_42 : decode prog_14_method_45_code 42 = .ok (.invokevirtual 183, 3) := ge_invokevirtual (by decide +kernel)
theorem d_X12_on_45 : decode prog_14_method_45_code 45 = .ok (.aload_n 0, 1) := ge_aload_n_0 (by decide +kernel)
theorem d_X12_on_46 : decode prog_14_method_45_code 46 = .ok (.iload_n 1, 1) := ge_iload_n_1 (by decide +kernel)
theorem d_X12_on_47 : decode prog_14_method_45_code 47 = .ok (.invokevirtual 180, 3) := ge_invokevirtual (by decide +kernel)
theorem d_X12_on_50 : decode prog_14_method_45_code 50 = .ok (.iload_n 2, 1) := ge_iload_n_2 (by decide +kernel)
theorem d_X12_on_51 : decode prog_14_method_45_code 51 = .ok (.ifCond .ne 10, 3) := ge_ifCond_ne (by decide +kernel)
theorem d_X12_on_54 : decode prog_14_method_45_code 54 = .ok (.aload_n 0, 1) := ge_aload_n_0 (by decide +kernel)
theorem d_X12_on_55 : decode prog_14_method_45_code 55 = .ok (.invokevirtual 164, 3) := ge_invokevirtual (by decide +kernel)
theorem d_X12_on_58 : decode prog_14_method_45_code 58 = .ok (.goto 32, 3) := ge_goto (by decide +kernel)
theorem d_X12_on_61 : decode prog_14_method_45_code 61 = .ok (.iload_n 2, 1) := ge_iload_n_2 (by decide +kernel)
theorem d_X12_on_62 : decode prog_14_method_45_code 62 = .ok (.bipush 20, 2) := ge_bipush (by decide +kernel)
theorem d_X12_on_64 : decode prog_14_method_45_code 64 = .ok (.if_icmp .ge 14, 3) := ge_if_icmp_ge (by decide +kernel)
theorem d_X12_on_67 : decode prog_14_method_45_code 67 = .ok (.aload_n 0, 1) := ge_aload_n_0 (by decide +kernel)
theorem d_X12_on_68 : decode prog_14_method_45_code 68 = .ok (.iload_n 2, 1) := ge_iload_n_2 (by decide +kernel)
theorem d_X12_on_69 : decode prog_14_method_45_code 69 = .ok (.bipush 10, 2) := ge_bipush (by decide +kernel)
theorem d_X12_on_71 : decode prog_14_method_45_code 71 = .ok (.isub, 1) := ge_isub (by decide +kernel)
theorem d_X12_on_72 : decode prog_14_method_45_code 72 = .ok (.invokevirtual 148, 3) := ge_invokevirtual (by decide +kernel)
theorem d_X12_on_75 : decode prog_14_method_45_code 75 = .ok (.goto 15, 3) := ge_goto (by decide +kernel)
theorem d_X12_on_78 : decode prog_14_method_45_code 78 = .ok (.aload_n 0, 1) := ge_aload_n_0 (by decide +kernel)
theorem d_X12_on_79 : decode prog_14_method_45_code 79 = .ok (.getfield 9, 3) := ge_getfield (by decide +kernel)
theorem d_X12_on_82 : decode prog_14_method_45_code 82 = .ok (.bipush 6, 2) := ge_bipush (by decide +kernel)
theorem d_X12_on_84 : decode prog_14_method_45_code 84 = .ok (.iload_n 2, 1) := ge_iload_n_2 (by decide +kernel)
theorem d_X12_on_85 : decode prog_14_method_45_code 85 = .ok (.iadd, 1) := ge_iadd (by decide +kernel)
theorem d_X12_on_86 : decode prog_14_method_45_code 86 = .ok (.bipush 20, 2) := ge_bipush (by decide +kernel)
theorem d_X12_on_88 : decode prog_14_method_45_code 88 = .ok (.isub, 1) := ge_isub (by decide +kernel)
theorem d_X12_on_89 : decode prog_14_method_45_code 89 = .ok (.iaload, 1) := ge_iaload (by decide +kernel)
theorem d_X12_on_90 : decode prog_14_method_45_code 90 = .ok (.istore_n 3, 1) := ge_istore_n_3 (by decide +kernel)
theorem d_X12_on_91 : decode prog_14_method_45_code 91 = .ok (.aload_n 0, 1) := ge_aload_n_0 (by decide +kernel)
theorem d_X12_on_92 : decode prog_14_method_45_code 92 = .ok (.invokevirtual 186, 3) := ge_invokevirtual (by decide +kernel)
theorem d_X12_on_95 : decode prog_14_method_45_code 95 = .ok (.iload_n 3, 1) := ge_iload_n_3 (by decide +kernel)
theorem d_X12_on_96 : decode prog_14_method_45_code 96 = .ok (.ireturn, 1) := ge_ireturn (by decide +kernel)
def f_X12_on (a0 : Nat) (a1 : Int32) (a2 : Int32) (μ : gm_M) : Option (Option Value × gm_M) := gm_j (fun (s1 : gm_M) => gm_bI (f_X12_in a1 (0 : Int32) (60 : Int32) s1) (fun x4 m3 => if x4 ≠ 0 then if gm_tag m3 a0 = 17 then gm_bV (f_X12_keeps a0 m3) (fun m5 => if gm_tag m5 a0 = 17 then gm_bV (f_X12_goesOn a0 a1 m5) (fun m7 => gm_j (fun (s9 : Int32 × gm_M) => if gm_tag s9.2 a0 = 17 then gm_bV (f_X12_goesBack a0 s9.2) (fun m11 => some (some (.int s9.1), m11)) else none) (fun j10 => if a2 ≠ 0 then if (20 : Int32) ≤ a2 then gm_gR m7 [17] a0 1 (fun v13 => gm_aI m7 v13 (((6 : Int32) + a2) - (20 : Int32)) (fun v14 => j10 (v14, m7))) else if gm_tag m7 a0 = 17 then gm_bI (f_X12_holdsOf a0 (a2 - (10 : Int32)) m7) (fun x16 m15 => j10 (x16, m15)) else none else if gm_tag m7 a0 = 17 then gm_bI (f_X12_allHold a0 m7) (fun x18 m17 => j10 (x18, m17)) else none)) else none) else none else some (some (.int (-2 : Int32)), m3))) (fun j2 => if a2 = 0 then j2 μ else if gm_tag μ a0 = 17 then gm_bI (f_X12_isChild a0 (a2 - (10 : Int32)) μ) (fun x20 m19 => if x20 ≠ 0 then j2 m19 else if gm_tag m19 a0 = 17 then gm_bI (f_X12_isChild a0 (a2 - (20 : Int32)) m19) (fun x22 m21 => if x22 ≠ 0 then j2 m21 else some (some (.int (-1 : Int32)), m21)) else none) else none)
set_option maxHeartbeats 4000000 in
theorem c_X12_on (a0 : Nat) (a1 : Int32) (a2 : Int32) (μ : gm_M) : gm_Call ({ cls := "GumBubbleModel", name := "on", desc := "(II)I" } : Jvm.MethodName) prog_14_method_45_code 4 (some .int) 5 0 0 [.ref a0, .int a1, .int a2] μ (f_X12_on a0 a1 a2 μ) := by
  refine gm_start PN_12 (Nat.le_of_ble_eq_true rfl) (fun res μe => ?_)
  unfold f_X12_on
  show gm_A "GumBubbleModel" (gm_nm "on") _ _ _ _ _ _ _ _ _ 0 [(0, .ref a0), (1, .int a1), (2, .int a2)] [] _ _
  refine gm_iload_n d_X12_on_0 rfl 2 rfl ?_
  refine gm_join (S := gm_M) (pj := 28) (kj := 0) (nj := 0) (fun s1 => s1) (fun s1 => [(0, .ref a0), (1, .int a1), (2, .int a2)]) (fun s1 => []) (fun s1 => ?_) (fun j2 hj2 => ?_)
  ·
    refine gm_iload_n d_X12_on_28 rfl 1 rfl ?_
    refine gm_iconst (v := 0) d_X12_on_29 (by decide) ?_
    refine gm_bipush (v := 60) d_X12_on_30 (by decide) ?_
    refine gm_callS [.int a1, .int (0 : Int32), .int (60 : Int32)] (c_X12_in a1 (0 : Int32) (60 : Int32) s1) B_X12_in gw_964 rfl rfl rfl d_X12_on_32 (gm_kI (fun x4 m3 => ?_))
    refine gm_if_ne (tgt := 41) d_X12_on_35 (by decide) (fun h35 => ?_) (fun h35 => ?_)
    ·
      refine gm_aload_n d_X12_on_41 rfl 0 rfl ?_
      refine gm_grd (fun g42 => ?_)
      refine gm_callV (k0 := 12) [] (c_X12_keeps a0 m3) g42 rfl B_X12_keeps gw_1126 gs_52 rfl rfl rfl d_X12_on_42 (gm_kV (fun m5 => ?_))
      refine gm_aload_n d_X12_on_45 rfl 0 rfl ?_
      refine gm_iload_n d_X12_on_46 rfl 1 rfl ?_
      refine gm_grd (fun g47 => ?_)
      refine gm_callV (k0 := 12) [.int a1] (c_X12_goesOn a0 a1 m5) g47 rfl B_X12_goesOn gw_1110 gs_49 rfl rfl rfl d_X12_on_47 (gm_kV (fun m7 => ?_))
      refine gm_iload_n d_X12_on_50 rfl 2 rfl ?_
      refine gm_join (S := Int32 × gm_M) (pj := 90) (kj := 0) (nj := 0) (fun s9 => s9.2) (fun s9 => [(0, .ref a0), (1, .int a1), (2, .int a2)]) (fun s9 => [.int s9.1]) (fun s9 => ?_) (fun j10 hj10 => ?_)
      ·
        refine gm_istore_n (L' := [(3, .int s9.1), (0, .ref a0), (1, .int a1), (2, .int a2)]) d_X12_on_90 rfl (Nat.le_of_ble_eq_true rfl) rfl ?_
        refine gm_aload_n d_X12_on_91 rfl 1 rfl ?_
        refine gm_grd (fun g92 => ?_)
        refine gm_callV (k0 := 12) [] (c_X12_goesBack a0 s9.2) g92 rfl B_X12_goesBack gw_1130 gs_53 rfl rfl rfl d_X12_on_92 (gm_kV (fun m11 => ?_))
        refine gm_iload_n d_X12_on_95 rfl 0 rfl ?_
        exact gm_iret rfl d_X12_on_96 (Nat.le_of_ble_eq_true rfl) (Nat.le_of_ble_eq_true rfl) (fun h => h)
      ·
        refine gm_if_ne (tgt := 61) d_X12_on_51 (by decide) (fun h51 => ?_) (fun h51 => ?_)
        ·
          refine gm_iload_n d_X12_on_61 rfl 2 rfl ?_
          refine gm_bipush (v := 20) d_X12_on_62 (by decide) ?_
          refine gm_icmp_ge (tgt := 78) d_X12_on_64 (by decide) (fun h64 => ?_) (fun h64 => ?_)
          ·
            refine gm_aload_n d_X12_on_78 rfl 0 rfl ?_
            refine gm_getR F_12_s gw_890 d_X12_on_79 (fun v13 _ => ?_)
            refine gm_bipush (v := 6) d_X12_on_82 (by decide) ?_
            refine gm_iload_n d_X12_on_84 rfl 2 rfl ?_
            refine gm_iadd d_X12_on_85 ?_
            refine gm_bipush (v := 20) d_X12_on_86 (by decide) ?_
            refine gm_isub d_X12_on_88 ?_
            refine gm_iald d_X12_on_89 (fun v14 _ => ?_)
            exact hj10 (v14, m7)
          ·
            refine gm_aload_n d_X12_on_67 rfl 0 rfl ?_
            refine gm_iload_n d_X12_on_68 rfl 2 rfl ?_
            refine gm_bipush (v := 10) d_X12_on_69 (by decide) ?_
            refine gm_isub d_X12_on_71 ?_
            refine gm_grd (fun g72 => ?_)
            refine gm_callV (k0 := 12) [.int (a2 - (10 : Int32))] (c_X12_holdsOf a0 (a2 - (10 : Int32)) m7) g72 rfl B_X12_holdsOf gw_1074 gs_45 rfl rfl rfl d_X12_on_72 (gm_kI (fun x16 m15 => ?_))
            refine gm_goto (tgt := 90) d_X12_on_75 (by decide) ?_
            exact hj10 (x16, m15)
        ·
          refine gm_aload_n d_X12_on_54 rfl 0 rfl ?_
          refine gm_grd (fun g55 => ?_)
          refine gm_callV (k0 := 12) [] (c_X12_allHold a0 m7) g55 rfl B_X12_allHold gw_1090 gs_46 rfl rfl rfl d_X12_on_55 (gm_kI (fun x18 m17 => ?_))
          refine gm_goto (tgt := 90) d_X12_on_58 (by decide) ?_
          exact hj10 (x18, m17)
    ·
      refine gm_bipush (v := -2) d_X12_on_38 (by decide) ?_
      exact gm_iret rfl d_X12_on_40 (Nat.le_of_ble_eq_true rfl) (Nat.le_of_ble_eq_true rfl) (fun h => h)
  ·
    refine gm_if_eq (tgt := 28) d_X12_on_1 (by decide) (fun h1 => ?_) (fun h1 => ?_)
    ·
      exact hj2 μ
    ·
      refine gm_aload_n d_X12_on_4 rfl 0 rfl ?_
      refine gm_iload_n d_X12_on_5 rfl 2 rfl ?_
      refine gm_bipush (v := 10) d_X12_on_6 (by decide) ?_
      refine gm_isub d_X12_on_8 ?_
      refine gm_grd (fun g9 => ?_)
      refine gm_callV (k0 := 12) [.int (a2 - (10 : Int32))] (c_X12_isChild a0 (a2 - (10 : Int32)) μ) g9 rfl B_X12_isChild gw_1047 gs_40 rfl rfl rfl d_X12_on_9 (gm_kI (fun x20 m19 => ?_))
      refine gm_if_ne (tgt := 28) d_X12_on_12 (by decide) (fun h12 => ?_) (fun h12 => ?_)
      ·
        exact hj2 m19
      ·
        refine gm_aload_n d_X12_on_15 rfl 0 rfl ?_
        refine gm_iload_n d_X12_on_16 rfl 2 rfl ?_
        refine gm_bipush (v := 20) d_X12_on_17 (by decide) ?_
        refine gm_isub d_X12_on_19 ?_
        refine gm_grd (fun g20 => ?_)
        refine gm_callV (k0 := 12) [.int (a2 - (20 : Int32))] (c_X12_isChild a0 (a2 - (20 : Int32)) m19) g20 rfl B_X12_isChild gw_1047 gs_40 rfl rfl rfl d_X12_on_20 (gm_kI (fun x22 m21 => ?_))
        refine gm_if_ne (tgt := 28) d_X12_on_23 (by decide) (fun h23 => ?_) (fun h23 => ?_)
        ·
          exact hj2 m21
        ·
          refine gm_iconst (v := -1) d_X12_on_26 (by decide) ?_
          exact gm_iret rfl d_X12_on_27 (Nat.le_of_ble_eq_true rfl) (Nat.le_of_ble_eq_true rfl) (fun h => h)
theorem d_X12_ordersFrom_0 : decode prog_14_method_63_code 0 = .ok (.iload_n 1, 1) := ge_iload_n_1 (by decide +kernel)
theorem d_X12_ordersFrom_1 : decode prog_14_method_63_code 1 = .ok (.aload_n 0, 1) := ge_aload_n_0 (by decide +kernel)
theorem d_X12_ordersFrom_2 : decode prog_14_method_63_code 2 = .ok (.getfield 9, 3) := ge_getfield (by decide +kernel)
theorem d_X12_ordersFrom_5 : decode prog_14_method_63_code 5 = .ok (.bipush 26, 2) := ge_bipush (by decide +kernel)
theorem d_X12_ordersFrom_7 : decode prog_14_method_63_code 7 = .ok (.iaload, 1) := ge_iaload (by decide +kernel)
theorem d_X12_ordersFrom_8 : decode prog_14_method_63_code 8 = .ok (.if_icmp .ne 46, 3) := ge_if_icmp_ne (by decide +kernel)
theorem d_X12_ordersFrom_11 : decode prog_14_method_63_code 11 = .ok (.iload_n 3, 1) := ge_iload_n_3 (by decide +kernel)
theorem d_X12_ordersFrom_12 : decode prog_14_method_63_code 12 = .ok (.aload_n 0, 1) := ge_aload_n_0 (by decide +kernel)
theorem d_X12_ordersFrom_13 : decode prog_14_method_63_code 13 = .ok (.getfield 228, 3) := ge_getfield (by decide +kernel)
theorem d_X12_ordersFrom_16 : decode prog_14_method_63_code 16 = .ok (.if_icmp .le 37, 3) := ge_if_icmp_le (by decide +kernel)
theorem d_X12_ordersFrom_19 : decode prog_14_method_63_code 19 = .ok (.aload_n 0, 1) := ge_aload_n_0 (by decide +kernel)
theorem d_X12_ordersFrom_20 : decode prog_14_method_63_code 20 = .ok (.iload_n 3, 1) := ge_iload_n_3 (by decide +kernel)
theorem d_X12_ordersFrom_21 : decode prog_14_method_63_code 21 = .ok (.putfield 228, 3) := ge_putfield (by decide +kernel)
theorem d_X12_ordersFrom_24 : decode prog_14_method_63_code 24 = .ok (.iconst 0, 1) := ge_iconst_0 (by decide +kernel)
theorem d_X12_ordersFrom_25 : decode prog_14_method_63_code 25 = .ok (.istore 4, 2) := ge_istore (by decide +kernel)
theorem d_X12_ordersFrom_27 : decode prog_14_method_63_code 27 = .ok (.iload 4, 2) := ge_iload (by decide +kernel)
theorem d_X12_ordersFrom_29 : decode prog_14_method_63_code 29 = .ok (.iload_n 1, 1) := ge_iload_n_1 (by decide +kernel)
theorem d_X12_ordersFrom_30 : decode prog_14_method_63_code 30 = .ok (.if_icmp .ge 23, 3) := ge_if_icmp_ge (by decide +kernel)
theorem d_X12_ordersFrom_33 : decode prog_14_method_63_code 33 = .ok (.aload_n 0, 1) := ge_aload_n_0 (by decide +kernel)
theorem d_X12_ordersFrom_34 : decode prog_14_method_63_code 34 = .ok (.getfield 34, 3) := ge_getfield (by decide +kernel)
theorem d_X12_ordersFrom_37 : decode prog_14_method_63_code 37 = .ok (.iload 4, 2) := ge_iload (by decide +kernel)
theorem d_X12_ordersFrom_39 : decode prog_14_method_63_code 39 = .ok (.aload_n 0, 1) := ge_aload_n_0 (by decide +kernel)
theorem d_X12_ordersFrom_40 : decode prog_14_method_63_code 40 = .ok (.getfield 31, 3) := ge_getfield (by decide +kernel)
theorem d_X12_ordersFrom_43 : decode prog_14_method_63_code 43 = .ok (.iload 4, 2) := ge_iload (by decide +kernel)
theorem d_X12_ordersFrom_45 : decode prog_14_method_63_code 45 = .ok (.iaload, 1) := ge_iaload (by decide +kernel)
theorem d_X12_ordersFrom_46 : decode prog_14_method_63_code 46 = .ok (.iastore, 1) := ge_iastore (by decide +kernel)
theorem d_X12_ordersFrom_47 : decode prog_14_method_63_code 47 = .ok (.iinc 4 1, 3) := ge_iinc (by decide +kernel)
theorem d_X12_ordersFrom_50 : decode prog_14_method_63_code 50 = .ok (.goto (-23), 3) := ge_goto (by decide +kernel)
theorem d_X12_ordersFrom_53 : decode prog_14_method_63_code 53 = .ok (.return_, 1) := ge_return_ (by decide +kernel)
theorem d_X12_ordersFrom_54 : decode prog_14_method_63_code 54 = .ok (.iconst 0, 1) := ge_iconst_0 (by decide +kernel)
theorem d_X12_ordersFrom_55 : decode prog_14_method_63_code 55 = .ok (.istore 4, 2) := ge_istore (by decide +kernel)
theorem d_X12_ordersFrom_57 : decode prog_14_method_63_code 57 = .ok (.iload 4, 2) := ge_iload (by decide +kernel)
theorem d_X12_ordersFrom_59 : decode prog_14_method_63_code 59 = .ok (.aload_n 0, 1) := ge_aload_n_0 (by decide +kernel)
theorem d_X12_ordersFrom_60 : decode prog_14_method_63_code 60 = .ok (.getfield 9, 3) := ge_getfield (by decide +kernel)
theorem d_X12_ordersFrom_63 : decode prog_14_method_63_code 63 = .ok (.bipush 26, 2) := ge_bipush (by decide +kernel)
theorem d_X12_ordersFrom_65 : decode prog_14_method_63_code 65 = .ok (.iaload, 1) := ge_iaload (by decide +kernel)
theorem d_X12_ordersFrom_66 : decode prog_14_method_63_code 66 = .ok (.if_icmp .ge 52, 3) := ge_if_icmp_ge (by decide +kernel)
theorem d_X12_ordersFrom_69 : decode prog_14_method_63_code 69 = .ok (.iload_n 2, 1) := ge_iload_n_2 (by decide +kernel)
theorem d_X12_ordersFrom_70 : decode prog_14_method_63_code 70 = .ok (.iload 4, 2) := ge_iload (by decide +kernel)
theorem d_X12_ordersFrom_72 : decode prog_14_method_63_code 72 = .ok (.ishr, 1) := ge_ishr (by decide +kernel)
theorem d_X12_ordersFrom_73 : decode prog_14_method_63_code 73 = .ok (.iconst 1, 1) := ge_iconst_1 (by decide +kernel)
theorem d_X12_ordersFrom_74 : decode prog_14_method_63_code 74 = .ok (.iand, 1) := ge_iand (by decide +kernel)
theorem d_X12_ordersFrom_75 : decode prog_14_method_63_code 75 = .ok (.ifCond .ne 37, 3) := ge_ifCond_ne (by decide +kernel)
theorem d_X12_ordersFrom_78 : decode prog_14_method_63_code 78 = .ok (.aload_n 0, 1) := ge_aload_n_0 (by decide +kernel)
theorem d_X12_ordersFrom_79 : decode prog_14_method_63_code 79 = .ok (.getfield 31, 3) := ge_getfield (by decide +kernel)
theorem d_X12_ordersFrom_82 : decode prog_14_method_63_code 82 = .ok (.iload_n 1, 1) := ge_iload_n_1 (by decide +kernel)
theorem d_X12_ordersFrom_83 : decode prog_14_method_63_code 83 = .ok (.iload 4, 2) := ge_iload (by decide +kernel)
theorem d_X12_ordersFrom_85 : decode prog_14_method_63_code 85 = .ok (.iastore, 1) := ge_iastore (by decide +kernel)
theorem d_X12_ordersFrom_86 : decode prog_14_method_63_code 86 = .ok (.aload_n 0, 1) := ge_aload_n_0 (by decide +kernel)
theorem d_X12_ordersFrom_87 : decode prog_14_method_63_code 87 = .ok (.iload_n 1, 1) := ge_iload_n_1 (by decide +kernel)
theorem d_X12_ordersFrom_88 : decode prog_14_method_63_code 88 = .ok (.iconst 1, 1) := ge_iconst_1 (by decide +kernel)
theorem d_X12_ordersFrom_89 : decode prog_14_method_63_code 89 = .ok (.iadd, 1) := ge_iadd (by decide +kernel)
theorem d_X12_ordersFrom_90 : decode prog_14_method_63_code 90 = .ok (.iload_n 2, 1) := ge_iload_n_2 (by decide +kernel)
theorem d_X12_ordersFrom_91 : decode prog_14_method_63_code 91 = .ok (.iconst 1, 1) := ge_iconst_1 (by decide +kernel)
theorem d_X12_ordersFrom_92 : decode prog_14_method_63_code 92 = .ok (.iload 4, 2) := ge_iload (by decide +kernel)
theorem d_X12_ordersFrom_94 : decode prog_14_method_63_code 94 = .ok (.ishl, 1) := ge_ishl (by decide +kernel)
theorem d_X12_ordersFrom_95 : decode prog_14_method_63_code 95 = .ok (.ior, 1) := ge_ior (by decide +kernel)
theorem d_X12_ordersFrom_96 : decode prog_14_method_63_code 96 = .ok (.iload_n 3, 1) := ge_iload_n_3 (by decide +kernel)
theorem d_X12_ordersFrom_97 : decode prog_14_method_63_code 97 = .ok (.aload_n 0, 1) := ge_aload_n_0 (by decide +kernel)
theorem d_X12_ordersFrom_98 : decode prog_14_method_63_code 98 = .ok (.getfield 28, 3) := ge_getfield (by decide +kernel)
theorem d_X12_ordersFrom_101 : decode prog_14_method_63_code 101 = .ok (.iconst 5, 1) := ge_iconst_5 (by decide +kernel)
theorem d_X12_ordersFrom_102 : decode prog_14_method_63_code 102 = .ok (.iload 4, 2) := ge_iload (by decide +kernel)
theorem d_X12_ordersFrom_104 : decode prog_14_method_63_code 104 = .ok (.imul, 1) := ge_imul (by decide +kernel)
theorem d_X12_ordersFrom_105 : decode prog_14_method_63_code 105 = .ok (.iload_n 1, 1) := ge_iload_n_1 (by decide +kernel)
theorem d_X12_ordersFrom_106 : decode prog_14_method_63_code 106 = .ok (.iadd, 1) := ge_iadd (by decide +kernel)
theorem d_X12_ordersFrom_107 : decode prog_14_method_63_code 107 = .ok (.iaload, 1) := ge_iaload (by decide +kernel)
theorem d_X12_ordersFrom_108 : decode prog_14_method_63_code 108 = .ok (.iadd, 1) := ge_iadd (by decide +kernel)
theorem d_X12_ordersFrom_109 : decode prog_14_method_63_code 109 = .ok (.invokevirtual 231, 3) := ge_invokevirtual (by decide +kernel)
theorem d_X12_ordersFrom_112 : decode prog_14_method_63_code 112 = .ok (.iinc 4 1, 3) := ge_iinc (by decide +kernel)
theorem d_X12_ordersFrom_115 : decode prog_14_method_63_code 115 = .ok (.goto (-58), 3) := ge_goto (by decide +kernel)
theorem d_X12_ordersFrom_118 : decode prog_14_method_63_code 118 = .ok (.return_, 1) := ge_return_ (by decide +kernel)
def b_X12_ordersFrom (R0 : Nat → Int32 → Int32 → Int32 → gm_M → Option (Option Value × gm_M)) (a0 : Nat) (a1 : Int32) (a2 : Int32) (a3 : Int32) (μ : gm_M) : Option (Option Value × gm_M) := gm_gR μ [17] a0 1 (fun v1 => gm_aI μ v1 (26 : Int32) (fun v2 => if a1 ≠ v2 then gm_loop (fun (s3 : Int32 × gm_M) => gm_gR s3.2 [17] a0 1 (fun v4 => gm_aI s3.2 v4 (26 : Int32) (fun v5 => if v5 ≤ s3.1 then some (Sum.inr (none, s3.2)) else gm_j (fun (s6 : gm_M) => some (Sum.inl ((s3.1 + (1 : Int32)), s6))) (fun j7 => if ((a2 >>> (s3.1 &&& 31)) &&& (1 : Int32)) ≠ 0 then j7 s3.2 else gm_gR s3.2 [17] a0 15 (fun v8 => gm_sI s3.2 v8 a1 s3.1 (fun m9 => gm_gR m9 [17] a0 14 (fun v10 => gm_aI m9 v10 (((5 : Int32) * s3.1) + a1) (fun v11 => if gm_tag m9 a0 = 17 then gm_bV (R0 a0 (a1 + (1 : Int32)) (a2 ||| ((1 : Int32) <<< (s3.1 &&& 31))) (a3 + v11) m9) (fun m12 => j7 m12) else none)))))))) 5000 ((0 : Int32), μ) else gm_gI μ [17] a0 17 (fun v14 => if a3 ≤ v14 then some (none, μ) else gm_pI μ [17] a0 17 a3 (fun m15 => gm_loop (fun (s16 : Int32 × gm_M) => if a1 ≤ s16.1 then some (Sum.inr (none, s16.2)) else gm_gR s16.2 [17] a0 16 (fun v17 => gm_gR s16.2 [17] a0 15 (fun v18 => gm_aI s16.2 v18 s16.1 (fun v19 => gm_sI s16.2 v17 s16.1 v19 (fun m20 => some (Sum.inl ((s16.1 + (1 : Int32)), m20))))))) 5000 ((0 : Int32), m15)))))
set_option maxHeartbeats 4000000 in
theorem bc_X12_ordersFrom (d : Nat) (R0 : Nat → Int32 → Int32 → Int32 → gm_M → Option (Option Value × gm_M)) (hR0 : ∀ (a0 : Nat) (a1 : Int32) (a2 : Int32) (a3 : Int32) (μ : gm_M), gm_Call ({ cls := "GumBubbleModel", name := "ordersFrom", desc := "(III)V" } : Jvm.MethodName) prog_14_method_63_code 5 none (d + 0) 0 0 [.ref a0, .int a1, .int a2, .int a3] μ (R0 a0 a1 a2 a3 μ)) (a0 : Nat) (a1 : Int32) (a2 : Int32) (a3 : Int32) (μ : gm_M) : gm_Call ({ cls := "GumBubbleModel", name := "ordersFrom", desc := "(III)V" } : Jvm.MethodName) prog_14_method_63_code 5 none (d + 1 + 0) 0 0 [.ref a0, .int a1, .int a2, .int a3] μ (b_X12_ordersFrom R0 a0 a1 a2 a3 μ) := by
  refine gm_start PN_12 (Nat.le_of_ble_eq_true rfl) (fun res μe => ?_)
  unfold b_X12_ordersFrom
  show gm_A "GumBubbleModel" (gm_nm "ordersFrom") _ _ _ _ _ _ _ _ _ 0 [(0, .ref a0), (1, .int a1), (2, .int a2), (3, .int a3)] [] _ _
  refine gm_iload_n d_X12_ordersFrom_0 rfl 1 rfl ?_
  refine gm_aload_n d_X12_ordersFrom_1 rfl 0 rfl ?_
  refine gm_getR F_12_s gw_890 d_X12_ordersFrom_2 (fun v1 _ => ?_)
  refine gm_bipush (v := 26) d_X12_ordersFrom_5 (by decide) ?_
  refine gm_iald d_X12_ordersFrom_7 (fun v2 _ => ?_)
  refine gm_icmp_ne (tgt := 54) d_X12_ordersFrom_8 (by decide) (fun h8 => ?_) (fun h8 => ?_)
  ·
    refine gm_iconst (v := 0) d_X12_ordersFrom_54 (by decide) ?_
    refine gm_istore (L' := [(4, .int (0 : Int32)), (0, .ref a0), (1, .int a1), (2, .int a2), (3, .int a3)]) d_X12_ordersFrom_55 (Nat.le_of_ble_eq_true rfl) rfl ?_
    refine gm_sub (L' := [(0, .ref a0), (1, .int a1), (2, .int a2), (3, .int a3), (4, .int (0 : Int32))]) [1, 2, 3, 4, 0] rfl ?_
    refine gm_lp (S := Int32 × gm_M) (fun _ => 0) (fun _ => 0) (fun s3 => s3.2) (fun s3 => [(0, .ref a0), (1, .int a1), (2, .int a2), (3, .int a3), (4, .int s3.1)]) (fun _ => []) (fun s3 => ?_) 5000 ((0 : Int32), μ)
    refine gm_iload d_X12_ordersFrom_57 4 rfl ?_
    refine gm_aload_n d_X12_ordersFrom_59 rfl 0 rfl ?_
    refine gm_getR F_12_s gw_890 d_X12_ordersFrom_60 (fun v4 _ => ?_)
    refine gm_bipush (v := 26) d_X12_ordersFrom_63 (by decide) ?_
    refine gm_iald d_X12_ordersFrom_65 (fun v5 _ => ?_)
    refine gm_icmp_ge (tgt := 118) d_X12_ordersFrom_66 (by decide) (fun h66 => ?_) (fun h66 => ?_)
    ·
      exact gm_vret rfl d_X12_ordersFrom_118 (Nat.le_of_ble_eq_true rfl) (Nat.le_of_ble_eq_true rfl) (fun h => h)
    ·
      refine gm_iload_n d_X12_ordersFrom_69 rfl 2 rfl ?_
      refine gm_iload d_X12_ordersFrom_70 4 rfl ?_
      refine gm_ishr d_X12_ordersFrom_72 ?_
      refine gm_iconst (v := 1) d_X12_ordersFrom_73 (by decide) ?_
      refine gm_iand d_X12_ordersFrom_74 ?_
      refine gm_join (S := gm_M) (pj := 112) (kj := 0) (nj := 0) (fun s6 => s6) (fun s6 => [(0, .ref a0), (1, .int a1), (2, .int a2), (3, .int a3), (4, .int s3.1)]) (fun s6 => []) (fun s6 => ?_) (fun j7 hj7 => ?_)
      ·
        refine gm_iinc (v := s3.1 + (1 : Int32)) (L' := [(4, .int (s3.1 + (1 : Int32))), (0, .ref a0), (1, .int a1), (2, .int a2), (3, .int a3)]) d_X12_ordersFrom_112 4 rfl rfl (Nat.le_of_ble_eq_true rfl) rfl ?_
        refine gm_goto (tgt := 57) d_X12_ordersFrom_115 (by decide) ?_
        refine gm_sub (L' := [(0, .ref a0), (1, .int a1), (2, .int a2), (3, .int a3), (4, .int (s3.1 + (1 : Int32)))]) [1, 2, 3, 4, 0] rfl ?_
        exact gm_back (fun h => h)
      ·
        refine gm_if_ne (tgt := 112) d_X12_ordersFrom_75 (by decide) (fun h75 => ?_) (fun h75 => ?_)
        ·
          exact hj7 s3.2
        ·
          refine gm_aload_n d_X12_ordersFrom_78 rfl 0 rfl ?_
          refine gm_getR F_12_line gw_904 d_X12_ordersFrom_79 (fun v8 _ => ?_)
          refine gm_iload_n d_X12_ordersFrom_82 rfl 1 rfl ?_
          refine gm_iload d_X12_ordersFrom_83 4 rfl ?_
          refine gm_iast d_X12_ordersFrom_85 (fun m9 _ => ?_)
          refine gm_aload_n d_X12_ordersFrom_86 rfl 0 rfl ?_
          refine gm_iload_n d_X12_ordersFrom_87 rfl 1 rfl ?_
          refine gm_iconst (v := 1) d_X12_ordersFrom_88 (by decide) ?_
          refine gm_iadd d_X12_ordersFrom_89 ?_
          refine gm_iload_n d_X12_ordersFrom_90 rfl 2 rfl ?_
          refine gm_iconst (v := 1) d_X12_ordersFrom_91 (by decide) ?_
          refine gm_iload d_X12_ordersFrom_92 4 rfl ?_
          refine gm_ishl d_X12_ordersFrom_94 ?_
          refine gm_ior d_X12_ordersFrom_95 ?_
          refine gm_iload_n d_X12_ordersFrom_96 rfl 3 rfl ?_
          refine gm_aload_n d_X12_ordersFrom_97 rfl 0 rfl ?_
          refine gm_getR F_12_held gw_903 d_X12_ordersFrom_98 (fun v10 _ => ?_)
          refine gm_iconst (v := 5) d_X12_ordersFrom_101 (by decide) ?_
          refine gm_iload d_X12_ordersFrom_102 4 rfl ?_
          refine gm_imul d_X12_ordersFrom_104 ?_
          refine gm_iload_n d_X12_ordersFrom_105 rfl 1 rfl ?_
          refine gm_iadd d_X12_ordersFrom_106 ?_
          refine gm_iald d_X12_ordersFrom_107 (fun v11 _ => ?_)
          refine gm_iadd d_X12_ordersFrom_108 ?_
          refine gm_grd (fun g109 => ?_)
          refine gm_callV (k0 := 12) [.int (a1 + (1 : Int32)), .int (a2 ||| ((1 : Int32) <<< (s3.1 &&& 31))), .int (a3 + v11)] (hR0 a0 (a1 + (1 : Int32)) (a2 ||| ((1 : Int32) <<< (s3.1 &&& 31))) (a3 + v11) m9) g109 rfl B_X12_ordersFrom gw_1210 gs_59 (gm_hit2 (by simp only [gm_rm]; omega) (by simp only [gm_rm]; omega) (Nat.le_refl 0) (Nat.le_refl 0)) rfl rfl d_X12_ordersFrom_109 (gm_kV (fun m12 => ?_))
          exact hj7 m12
  ·
    refine gm_iload_n d_X12_ordersFrom_11 rfl 3 rfl ?_
    refine gm_aload_n d_X12_ordersFrom_12 rfl 0 rfl ?_
    refine gm_getI F_12_mostInAll gw_906 d_X12_ordersFrom_13 (fun v14 _ => ?_)
    refine gm_icmp_le (tgt := 53) d_X12_ordersFrom_16 (by decide) (fun h16 => ?_) (fun h16 => ?_)
    ·
      exact gm_vret rfl d_X12_ordersFrom_53 (Nat.le_of_ble_eq_true rfl) (Nat.le_of_ble_eq_true rfl) (fun h => h)
    ·
      refine gm_aload_n d_X12_ordersFrom_19 rfl 0 rfl ?_
      refine gm_iload_n d_X12_ordersFrom_20 rfl 3 rfl ?_
      refine gm_putI F_12_mostInAll (Or.inl rfl) gw_906 d_X12_ordersFrom_21 (fun m15 _ => ?_)
      refine gm_iconst (v := 0) d_X12_ordersFrom_24 (by decide) ?_
      refine gm_istore (L' := [(4, .int (0 : Int32)), (0, .ref a0), (1, .int a1), (2, .int a2), (3, .int a3)]) d_X12_ordersFrom_25 (Nat.le_of_ble_eq_true rfl) rfl ?_
      refine gm_sub (L' := [(0, .ref a0), (1, .int a1), (2, .int a2), (3, .int a3), (4, .int (0 : Int32))]) [1, 2, 3, 4, 0] rfl ?_
      refine gm_lp (S := Int32 × gm_M) (fun _ => 0) (fun _ => 0) (fun s16 => s16.2) (fun s16 => [(0, .ref a0), (1, .int a1), (2, .int a2), (3, .int a3), (4, .int s16.1)]) (fun _ => []) (fun s16 => ?_) 5000 ((0 : Int32), m15)
      refine gm_iload d_X12_ordersFrom_27 4 rfl ?_
      refine gm_iload_n d_X12_ordersFrom_29 rfl 1 rfl ?_
      refine gm_icmp_ge (tgt := 53) d_X12_ordersFrom_30 (by decide) (fun h30 => ?_) (fun h30 => ?_)
      ·
        exact gm_vret rfl d_X12_ordersFrom_53 (Nat.le_of_ble_eq_true rfl) (Nat.le_of_ble_eq_true rfl) (fun h => h)
      ·
        refine gm_aload_n d_X12_ordersFrom_33 rfl 0 rfl ?_
        refine gm_getR F_12_bestLine gw_905 d_X12_ordersFrom_34 (fun v17 _ => ?_)
        refine gm_iload d_X12_ordersFrom_37 4 rfl ?_
        refine gm_aload_n d_X12_ordersFrom_39 rfl 0 rfl ?_
        refine gm_getR F_12_line gw_904 d_X12_ordersFrom_40 (fun v18 _ => ?_)
        refine gm_iload d_X12_ordersFrom_43 4 rfl ?_
        refine gm_iald d_X12_ordersFrom_45 (fun v19 _ => ?_)
        refine gm_iast d_X12_ordersFrom_46 (fun m20 _ => ?_)
        refine gm_iinc (v := s16.1 + (1 : Int32)) (L' := [(4, .int (s16.1 + (1 : Int32))), (0, .ref a0), (1, .int a1), (2, .int a2), (3, .int a3)]) d_X12_ordersFrom_47 4 rfl rfl (Nat.le_of_ble_eq_true rfl) rfl ?_
        refine gm_goto (tgt := 27) d_X12_ordersFrom_50 (by decide) ?_
        refine gm_sub (L' := [(0, .ref a0), (1, .int a1), (2, .int a2), (3, .int a3), (4, .int (s16.1 + (1 : Int32)))]) [1, 2, 3, 4, 0] rfl ?_
        exact gm_back (fun h => h)
def r_X12_ordersFrom : Nat → Nat → Int32 → Int32 → Int32 → gm_M → Option (Option Value × gm_M)
  | 0 => fun _ _ _ _ _ => none
  | d + 1 => b_X12_ordersFrom (r_X12_ordersFrom d)
theorem rc_X12_ordersFrom : ∀ d : Nat, (∀ (a0 : Nat) (a1 : Int32) (a2 : Int32) (a3 : Int32) (μ : gm_M), gm_Call ({ cls := "GumBubbleModel", name := "ordersFrom", desc := "(III)V" } : Jvm.MethodName) prog_14_method_63_code 5 none (d + 0) 0 0 [.ref a0, .int a1, .int a2, .int a3] μ ((r_X12_ordersFrom d) a0 a1 a2 a3 μ)) := by
  intro d
  induction d with
  | zero =>
    exact fun _ _ _ _ _ _ _ h => (by cases h)
  | succ d ih =>
    exact bc_X12_ordersFrom d _ ih
def f_X12_ordersFrom (a0 : Nat) (a1 : Int32) (a2 : Int32) (a3 : Int32) (μ : gm_M) : Option (Option Value × gm_M) := (r_X12_ordersFrom 64) a0 a1 a2 a3 μ
theorem c_X12_ordersFrom (a0 : Nat) (a1 : Int32) (a2 : Int32) (a3 : Int32) (μ : gm_M) : gm_Call ({ cls := "GumBubbleModel", name := "ordersFrom", desc := "(III)V" } : Jvm.MethodName) prog_14_method_63_code 5 none 64 0 0 [.ref a0, .int a1, .int a2, .int a3] μ (f_X12_ordersFrom a0 a1 a2 a3 μ) := (rc_X12_ordersFrom 64) a0 a1 a2 a3 μ
theorem d_X12_order_0 : decode prog_14_method_64_code 0 = .ok (.iload_n 1, 1) := ge_iload_n_1 (by decide +kernel)
theorem d_X12_order_1 : decode prog_14_method_64_code 1 = .ok (.iconst (-1), 1) := ge_iconst_m1_ (by decide +kernel)
theorem d_X12_order_2 : decode prog_14_method_64_code 2 = .ok (.iconst 4, 1) := ge_iconst_4 (by decide +kernel)
theorem d_X12_order_3 : decode prog_14_method_64_code 3 = .ok (.invokestatic 44, 3) := ge_invokestatic (by decide +kernel)
theorem d_X12_order_6 : decode prog_14_method_64_code 6 = .ok (.ifCond .ne 5, 3) := ge_ifCond_ne (by decide +kernel)
theorem d_X12_order_9 : decode prog_14_method_64_code 9 = .ok (.iconst (-1), 1) := ge_iconst_m1_ (by decide +kernel)
theorem d_X12_order_10 : decode prog_14_method_64_code 10 = .ok (.ireturn, 1) := ge_ireturn (by decide +kernel)
theorem d_X12_order_11 : decode prog_14_method_64_code 11 = .ok (.aload_n 0, 1) := ge_aload_n_0 (by decide +kernel)
theorem d_X12_order_12 : decode prog_14_method_64_code 12 = .ok (.invokevirtual 183, 3) := ge_invokevirtual (by decide +kernel)
theorem d_X12_order_15 : decode prog_14_method_64_code 15 = .ok (.iconst 0, 1) := ge_iconst_0 (by decide +kernel)
theorem d_X12_order_16 : decode prog_14_method_64_code 16 = .ok (.istore_n 2, 1) := ge_istore_n_2 (by decide +kernel)
theorem d_X12_order_17 : decode prog_14_method_64_code 17 = .ok (.iload_n 2, 1) := ge_iload_n_2 (by decide +kernel)
theorem d_X12_order_18 : decode prog_14_method_64_code 18 = .ok (.iconst 5, 1) := ge_iconst_5 (by decide +kernel)
theorem d_X12_order_19 : decode prog_14_method_64_code 19 = .ok (.if_icmp .ge 47, 3) := ge_if_icmp_ge (by decide +kernel)
theorem d_X12_order_22 : decode prog_14_method_64_code 22 = .ok (.iconst 0, 1) := ge_iconst_0 (by decide +kernel)
theorem d_X12_order_23 : decode prog_14_method_64_code 23 = .ok (.istore_n 3, 1) := ge_istore_n_3 (by decide +kernel)
theorem d_X12_order_24 : decode prog_14_method_64_code 24 = .ok (.iload_n 3, 1) := ge_iload_n_3 (by decide +kernel)
theorem d_X12_order_25 : decode prog_14_method_64_code 25 = .ok (.aload_n 0, 1) := ge_aload_n_0 (by decide +kernel)
theorem d_X12_order_26 : decode prog_14_method_64_code 26 = .ok (.getfield 9, 3) := ge_getfield (by decide +kernel)
theorem d_X12_order_29 : decode prog_14_method_64_code 29 = .ok (.bipush 26, 2) := ge_bipush (by decide +kernel)
theorem d_X12_order_31 : decode prog_14_method_64_code 31 = .ok (.iaload, 1) := ge_iaload (by decide +kernel)
theorem d_X12_order_32 : decode prog_14_method_64_code 32 = .ok (.if_icmp .ge 24, 3) := ge_if_icmp_ge (by decide +kernel)
theorem d_X12_order_35 : decode prog_14_method_64_code 35 = .ok (.aload_n 0, 1) := ge_aload_n_0 (by decide +kernel)
theorem d_X12_order_36 : decode prog_14_method_64_code 36 = .ok (.getfield 28, 3) := ge_getfield (by decide +kernel)
theorem d_X12_order_39 : decode prog_14_method_64_code 39 = .ok (.iconst 5, 1) := ge_iconst_5 (by decide +kernel)
theorem d_X12_order_40 : decode prog_14_method_64_code 40 = .ok (.iload_n 3, 1) := ge_iload_n_3 (by decide +kernel)
theorem d_X12_order_41 : decode prog_14_method_64_code 41 = .ok (.imul, 1) := ge_imul (by decide +kernel)
theorem d_X12_order_42 : decode prog_14_method_64_code 42 = .ok (.iload_n 2, 1) := ge_iload_n_2 (by decide +kernel)
theorem d_X12_order_43 : decode prog_14_method_64_code 43 = .ok (.iadd, 1) := ge_iadd (by decide +kernel)
theorem d_X12_order_44 : decode prog_14_method_64_code 44 = .ok (.aload_n 0, 1) := ge_aload_n_0 (by decide +kernel)
theorem d_X12_order_45 : decode prog_14_method_64_code 45 = .ok (.iload_n 3, 1) := ge_iload_n_3 (by decide +kernel)
theorem d_X12_order_46 : decode prog_14_method_64_code 46 = .ok (.invokevirtual 148, 3) := ge_invokevirtual (by decide +kernel)
theorem d_X12_order_49 : decode prog_14_method_64_code 49 = .ok (.iastore, 1) := ge_iastore (by decide +kernel)
theorem d_X12_order_50 : decode prog_14_method_64_code 50 = .ok (.iinc 3 1, 3) := ge_iinc (by decide +kernel)
theorem d_X12_order_53 : decode prog_14_method_64_code 53 = .ok (.goto (-29), 3) := ge_goto (by decide +kernel)
theorem d_X12_order_56 : decode prog_14_method_64_code 56 = .ok (.aload_n 0, 1) := ge_aload_n_0 (by decide +kernel)
theorem d_X12_order_57 : decode prog_14_method_64_code 57 = .ok (.invokevirtual 177, 3) := ge_invokevirtual (by decide +kernel)
theorem d_X12_order_60 : decode prog_14_method_64_code 60 = .ok (.iinc 2 1, 3) := ge_iinc (by decide +kernel)
theorem d_X12_order_63 : decode prog_14_method_64_code 63 = .ok (.goto (-46), 3) := ge_goto (by decide +kernel)
theorem d_X12_order_66 : decode prog_14_method_64_code 66 = .ok (.aload_n 0, 1) := ge_aload_n_0 (by decide +kernel)
theorem d_X12_order_67 : decode prog_14_method_64_code 67 = .ok (.invokevirtual 186, 3) := ge_invokevirtual (by decide +kernel)
theorem d_X12_order_70 : decode prog_14_method_64_code 70 = .ok (.aload_n 0, 1) := ge_aload_n_0 (by decide +kernel)
theorem d_X12_order_71 : decode prog_14_method_64_code 71 = .ok (.iconst (-1), 1) := ge_iconst_m1_ (by decide +kernel)
theorem d_X12_order_72 : decode prog_14_method_64_code 72 = .ok (.putfield 228, 3) := ge_putfield (by decide +kernel)
theorem d_X12_order_75 : decode prog_14_method_64_code 75 = .ok (.aload_n 0, 1) := ge_aload_n_0 (by decide +kernel)
theorem d_X12_order_76 : decode prog_14_method_64_code 76 = .ok (.iconst 0, 1) := ge_iconst_0 (by decide +kernel)
theorem d_X12_order_77 : decode prog_14_method_64_code 77 = .ok (.iconst 0, 1) := ge_iconst_0 (by decide +kernel)
theorem d_X12_order_78 : decode prog_14_method_64_code 78 = .ok (.iconst 0, 1) := ge_iconst_0 (by decide +kernel)
theorem d_X12_order_79 : decode prog_14_method_64_code 79 = .ok (.invokevirtual 231, 3) := ge_invokevirtual (by decide +kernel)
theorem d_X12_order_82 : decode prog_14_method_64_code 82 = .ok (.iload_n 1, 1) := ge_iload_n_1 (by decide +kernel)
theorem d_X12_order_83 : decode prog_14_method_64_code 83 = .ok (.iconst (-1), 1) := ge_iconst_m1_ (by decide +kernel)
theorem d_X12_order_84 : decode prog_14_method_64_code 84 = .ok (.if_icmp .ne 10, 3) := ge_if_icmp_ne (by decide +kernel)
theorem d_X12_order_87 : decode prog_14_method_64_code 87 = .ok (.aload_n 0, 1) := ge_aload_n_0 (by decide +kernel)
theorem d_X12_order_88 : decode prog_14_method_64_code 88 = .ok (.getfield 228, 3) := ge_getfield (by decide +kernel)
theorem d_X12_order_91 : decode prog_14_method_64_code 91 = .ok (.goto 25, 3) := ge_goto (by decide +kernel)
theorem d_X12_order_94 : decode prog_14_method_64_code 94 = .ok (.iload_n 1, 1) := ge_iload_n_1 (by decide +kernel)
theorem d_X12_order_95 : decode prog_14_method_64_code 95 = .ok (.aload_n 0, 1) := ge_aload_n_0 (by decide +kernel)
theorem d_X12_order_96 : decode prog_14_method_64_code 96 = .ok (.getfield 9, 3) := ge_getfield (by decide +kernel)
theorem d_X12_order_99 : decode prog_14_method_64_code 99 = .ok (.bipush 26, 2) := ge_bipush (by decide +kernel)
theorem d_X12_order_101 : decode prog_14_method_64_code 101 = .ok (.iaload, 1) := ge_iaload (by decide +kernel)
theorem d_X12_order_102 : decode prog_14_method_64_code 102 = .ok (.if_icmp .ge 12, 3) := ge_if_icmp_ge (by decide +kernel)
theorem d_X12_order_105 : decode prog_14_method_64_code 105 = .ok (.aload_n 0, 1) := ge_aload_n_0 (by decide +kernel)
theorem d_X12_order_106 : decode prog_14_method_64_code 106 = .ok (.getfield 34, 3) := ge_getfield (by decide +kernel)
theorem d_X12_order_109 : decode prog_14_method_64_code 109 = .ok (.iload_n 1, 1) := ge_iload_n_1 (by decide +kernel)
theorem d_X12_order_110 : decode prog_14_method_64_code 110 = .ok (.iaload, 1) := ge_iaload (by decide +kernel)
theorem d_X12_order_111 : decode prog_14_method_64_code 111 = .ok (.goto 5, 3) := ge_goto (by decide +kernel)
theorem d_X12_order_114 : decode prog_14_method_64_code 114 = .ok (.bipush (-5), 2) := ge_bipush (by decide +kernel)
theorem d_X12_order_116 : decode prog_14_method_64_code 116 = .ok (.ireturn, 1) := ge_ireturn (by decide +kernel)
def f_X12_order (a0 : Nat) (a1 : Int32) (μ : gm_M) : Option (Option Value × gm_M) := gm_bI (f_X12_in a1 (-1 : Int32) (4 : Int32) μ) (fun x2 m1 => if x2 ≠ 0 then if gm_tag m1 a0 = 17 then gm_bV (f_X12_keeps a0 m1) (fun m3 => gm_loop (fun (s5 : Int32 × gm_M) => if (5 : Int32) ≤ s5.1 then if gm_tag s5.2 a0 = 17 then gm_bV (f_X12_goesBack a0 s5.2) (fun m6 => gm_pI m6 [17] a0 17 (-1 : Int32) (fun m8 => if gm_tag m8 a0 = 17 then gm_bV (f_X12_ordersFrom a0 (0 : Int32) (0 : Int32) (0 : Int32) m8) (fun m9 => if a1 ≠ (-1 : Int32) then gm_gR m9 [17] a0 1 (fun v11 => gm_aI m9 v11 (26 : Int32) (fun v12 => if v12 ≤ a1 then some (Sum.inr (some (.int (-5 : Int32)), m9)) else gm_gR m9 [17] a0 16 (fun v13 => gm_aI m9 v13 a1 (fun v14 => some (Sum.inr (some (.int v14), m9)))))) else gm_gI m9 [17] a0 17 (fun v15 => some (Sum.inr (some (.int v15), m9)))) else none)) else none else gm_loop (fun (s16 : Int32 × gm_M) => gm_gR s16.2 [17] a0 1 (fun v17 => gm_aI s16.2 v17 (26 : Int32) (fun v18 => if v18 ≤ s16.1 then if gm_tag s16.2 a0 = 17 then gm_bV (f_X12_goes a0 s16.2) (fun m19 => some (Sum.inr (Sum.inl ((s5.1 + (1 : Int32)), m19)))) else none else gm_gR s16.2 [17] a0 14 (fun v21 => if gm_tag s16.2 a0 = 17 then gm_bI (f_X12_holdsOf a0 s16.1 s16.2) (fun x23 m22 => gm_sI m22 v21 (((5 : Int32) * s16.1) + s5.1) x23 (fun m24 => some (Sum.inl ((s16.1 + (1 : Int32)), m24)))) else none)))) 5000 ((0 : Int32), s5.2)) 5000 ((0 : Int32), m3)) else none else some (some (.int (-1 : Int32)), m1))
set_option maxHeartbeats 4000000 in
theorem c_X12_order (a0 : Nat) (a1 : Int32) (μ : gm_M) : gm_Call ({ cls := "GumBubbleModel", name := "order", desc := "(I)I" } : Jvm.MethodName) prog_14_method_64_code 4 (some .int) 65 0 0 [.ref a0, .int a1] μ (f_X12_order a0 a1 μ) := by
  refine gm_start PN_12 (Nat.le_of_ble_eq_true rfl) (fun res μe => ?_)
  unfold f_X12_order
  show gm_A "GumBubbleModel" (gm_nm "order") _ _ _ _ _ _ _ _ _ 0 [(0, .ref a0), (1, .int a1)] [] _ _
  refine gm_iload_n d_X12_order_0 rfl 1 rfl ?_
  refine gm_iconst (v := -1) d_X12_order_1 (by decide) ?_
  refine gm_iconst (v := 4) d_X12_order_2 (by decide) ?_
  refine gm_callS [.int a1, .int (-1 : Int32), .int (4 : Int32)] (c_X12_in a1 (-1 : Int32) (4 : Int32) μ) B_X12_in gw_964 rfl rfl rfl d_X12_order_3 (gm_kI (fun x2 m1 => ?_))
  refine gm_if_ne (tgt := 11) d_X12_order_6 (by decide) (fun h6 => ?_) (fun h6 => ?_)
  ·
    refine gm_aload_n d_X12_order_11 rfl 0 rfl ?_
    refine gm_grd (fun g12 => ?_)
    refine gm_callV (k0 := 12) [] (c_X12_keeps a0 m1) g12 rfl B_X12_keeps gw_1126 gs_52 rfl rfl rfl d_X12_order_12 (gm_kV (fun m3 => ?_))
    refine gm_iconst (v := 0) d_X12_order_15 (by decide) ?_
    refine gm_istore_n (L' := [(2, .int (0 : Int32)), (0, .ref a0), (1, .int a1)]) d_X12_order_16 rfl (Nat.le_of_ble_eq_true rfl) rfl ?_
    refine gm_sub (L' := [(0, .ref a0), (1, .int a1), (2, .int (0 : Int32))]) [1, 2, 0] rfl ?_
    refine gm_lp (S := Int32 × gm_M) (fun _ => 0) (fun _ => 0) (fun s5 => s5.2) (fun s5 => [(0, .ref a0), (1, .int a1), (2, .int s5.1)]) (fun _ => []) (fun s5 => ?_) 5000 ((0 : Int32), m3)
    refine gm_iload_n d_X12_order_17 rfl 2 rfl ?_
    refine gm_iconst (v := 5) d_X12_order_18 (by decide) ?_
    refine gm_icmp_ge (tgt := 66) d_X12_order_19 (by decide) (fun h19 => ?_) (fun h19 => ?_)
    ·
      refine gm_aload_n d_X12_order_66 rfl 0 rfl ?_
      refine gm_grd (fun g67 => ?_)
      refine gm_callV (k0 := 12) [] (c_X12_goesBack a0 s5.2) g67 rfl B_X12_goesBack gw_1130 gs_53 rfl rfl rfl d_X12_order_67 (gm_kV (fun m6 => ?_))
      refine gm_aload_n d_X12_order_70 rfl 0 rfl ?_
      refine gm_iconst (v := -1) d_X12_order_71 (by decide) ?_
      refine gm_putI F_12_mostInAll (Or.inl rfl) gw_906 d_X12_order_72 (fun m8 _ => ?_)
      refine gm_aload_n d_X12_order_75 rfl 0 rfl ?_
      refine gm_iconst (v := 0) d_X12_order_76 (by decide) ?_
      refine gm_iconst (v := 0) d_X12_order_77 (by decide) ?_
      refine gm_iconst (v := 0) d_X12_order_78 (by decide) ?_
      refine gm_grd (fun g79 => ?_)
      refine gm_callV (k0 := 12) [.int (0 : Int32), .int (0 : Int32), .int (0 : Int32)] (c_X12_ordersFrom a0 (0 : Int32) (0 : Int32) (0 : Int32) m8) g79 rfl B_X12_ordersFrom gw_1210 gs_59 rfl rfl rfl d_X12_order_79 (gm_kV (fun m9 => ?_))
      refine gm_iload_n d_X12_order_82 rfl 1 rfl ?_
      refine gm_iconst (v := -1) d_X12_order_83 (by decide) ?_
      refine gm_icmp_ne (tgt := 94) d_X12_order_84 (by decide) (fun h84 => ?_) (fun h84 => ?_)
      ·
        refine gm_iload_n d_X12_order_94 rfl 1 rfl ?_
        refine gm_aload_n d_X12_order_95 rfl 0 rfl ?_
        refine gm_getR F_12_s gw_890 d_X12_order_96 (fun v11 _ => ?_)
        refine gm_bipush (v := 26) d_X12_order_99 (by decide) ?_
        refine gm_iald d_X12_order_101 (fun v12 _ => ?_)
        refine gm_icmp_ge (tgt := 114) d_X12_order_102 (by decide) (fun h102 => ?_) (fun h102 => ?_)
        ·
          refine gm_bipush (v := -5) d_X12_order_114 (by decide) ?_
          exact gm_iret rfl d_X12_order_116 (Nat.le_of_ble_eq_true rfl) (Nat.le_of_ble_eq_true rfl) (fun h => h)
        ·
          refine gm_aload_n d_X12_order_105 rfl 0 rfl ?_
          refine gm_getR F_12_bestLine gw_905 d_X12_order_106 (fun v13 _ => ?_)
          refine gm_iload_n d_X12_order_109 rfl 1 rfl ?_
          refine gm_iald d_X12_order_110 (fun v14 _ => ?_)
          refine gm_goto (tgt := 116) d_X12_order_111 (by decide) ?_
          exact gm_iret rfl d_X12_order_116 (Nat.le_of_ble_eq_true rfl) (Nat.le_of_ble_eq_true rfl) (fun h => h)
      ·
        refine gm_aload_n d_X12_order_87 rfl 0 rfl ?_
        refine gm_getI F_12_mostInAll gw_906 d_X12_order_88 (fun v15 _ => ?_)
        refine gm_goto (tgt := 116) d_X12_order_91 (by decide) ?_
        exact gm_iret rfl d_X12_order_116 (Nat.le_of_ble_eq_true rfl) (Nat.le_of_ble_eq_true rfl) (fun h => h)
    ·
      refine gm_iconst (v := 0) d_X12_order_22 (by decide) ?_
      refine gm_istore_n (L' := [(3, .int (0 : Int32)), (0, .ref a0), (1, .int a1), (2, .int s5.1)]) d_X12_order_23 rfl (Nat.le_of_ble_eq_true rfl) rfl ?_
      refine gm_sub (L' := [(0, .ref a0), (1, .int a1), (2, .int s5.1), (3, .int (0 : Int32))]) [1, 2, 3, 0] rfl ?_
      refine gm_lp (S := Int32 × gm_M) (fun _ => 0) (fun _ => 0) (fun s16 => s16.2) (fun s16 => [(0, .ref a0), (1, .int a1), (2, .int s5.1), (3, .int s16.1)]) (fun _ => []) (fun s16 => ?_) 5000 ((0 : Int32), s5.2)
      refine gm_iload_n d_X12_order_24 rfl 3 rfl ?_
      refine gm_aload_n d_X12_order_25 rfl 0 rfl ?_
      refine gm_getR F_12_s gw_890 d_X12_order_26 (fun v17 _ => ?_)
      refine gm_bipush (v := 26) d_X12_order_29 (by decide) ?_
      refine gm_iald d_X12_order_31 (fun v18 _ => ?_)
      refine gm_icmp_ge (tgt := 56) d_X12_order_32 (by decide) (fun h32 => ?_) (fun h32 => ?_)
      ·
        refine gm_aload_n d_X12_order_56 rfl 0 rfl ?_
        refine gm_grd (fun g57 => ?_)
        refine gm_callV (k0 := 12) [] (c_X12_goes a0 s16.2) g57 rfl B_X12_goes gw_1114 gs_50 rfl rfl rfl d_X12_order_57 (gm_kV (fun m19 => ?_))
        refine gm_iinc (v := s5.1 + (1 : Int32)) (L' := [(2, .int (s5.1 + (1 : Int32))), (0, .ref a0), (1, .int a1), (3, .int s16.1)]) d_X12_order_60 2 rfl rfl (Nat.le_of_ble_eq_true rfl) rfl ?_
        refine gm_goto (tgt := 17) d_X12_order_63 (by decide) ?_
        refine gm_sub (L' := [(0, .ref a0), (1, .int a1), (2, .int (s5.1 + (1 : Int32)))]) [1, 2, 0] rfl ?_
        exact gm_back (fun h => h)
      ·
        refine gm_aload_n d_X12_order_35 rfl 0 rfl ?_
        refine gm_getR F_12_held gw_903 d_X12_order_36 (fun v21 _ => ?_)
        refine gm_iconst (v := 5) d_X12_order_39 (by decide) ?_
        refine gm_iload_n d_X12_order_40 rfl 3 rfl ?_
        refine gm_imul d_X12_order_41 ?_
        refine gm_iload_n d_X12_order_42 rfl 2 rfl ?_
        refine gm_iadd d_X12_order_43 ?_
        refine gm_aload_n d_X12_order_44 rfl 0 rfl ?_
        refine gm_iload_n d_X12_order_45 rfl 3 rfl ?_
        refine gm_grd (fun g46 => ?_)
        refine gm_callV (k0 := 12) [.int s16.1] (c_X12_holdsOf a0 s16.1 s16.2) g46 rfl B_X12_holdsOf gw_1074 gs_45 rfl rfl rfl d_X12_order_46 (gm_kI (fun x23 m22 => ?_))
        refine gm_iast d_X12_order_49 (fun m24 _ => ?_)
        refine gm_iinc (v := s16.1 + (1 : Int32)) (L' := [(3, .int (s16.1 + (1 : Int32))), (0, .ref a0), (1, .int a1), (2, .int s5.1)]) d_X12_order_50 3 rfl rfl (Nat.le_of_ble_eq_true rfl) rfl ?_
        refine gm_goto (tgt := 24) d_X12_order_53 (by decide) ?_
        refine gm_sub (L' := [(0, .ref a0), (1, .int a1), (2, .int s5.1), (3, .int (s16.1 + (1 : Int32)))]) [1, 2, 3, 0] rfl ?_
        exact gm_back (fun h => h)
  ·
    refine gm_iconst (v := -1) d_X12_order_9 (by decide) ?_
    exact gm_iret rfl d_X12_order_10 (Nat.le_of_ble_eq_true rfl) (Nat.le_of_ble_eq_true rfl) (fun h => h)
end
section
theorem d_X12_pass_0 : decode prog_14_method_44_code 0 = .ok (.iload_n 1, 1) := ge_iload_n_1 (by decide +kernel)
theorem d_X12_pass_1 : decode prog_14_method_44_code 1 = .ok (.iconst 0, 1) := ge_iconst_0 (by decide +kernel)
theorem d_X12_pass_2 : decode prog_14_method_44_code 2 = .ok (.bipush 60, 2) := ge_bipush (by decide +kernel)
theorem d_X12_pass_4 : decode prog_14_method_44_code 4 = .ok (.invokestatic 44, 3) := ge_invokestatic (by decide +kernel)
theorem d_X12_pass_7 : decode prog_14_method_44_code 7 = .ok (.ifCond .ne 6, 3) := ge_ifCond_ne (by decide +kernel)
theorem d_X12_pass_10 : decode prog_14_method_44_code 10 = .ok (.bipush (-2), 2) := ge_bipush (by decide +kernel)
theorem d_X12_pass_12 : decode prog_14_method_44_code 12 = .ok (.ireturn, 1) := ge_ireturn (by decide +kernel)
theorem d_X12_pass_13 : decode prog_14_method_44_code 13 = .ok (.aload_n 0, 1) := ge_aload_n_0 (by decide +kernel)
theorem d_X12_pass_14 : decode prog_14_method_44_code 14 = .ok (.getfield 9, 3) := ge_getfield (by decide +kernel)
theorem d_X12_pass_17 : decode prog_14_method_44_code 17 = .ok (.iconst 0, 1) := ge_iconst_0 (by decide +kernel)
theorem d_X12_pass_18 : decode prog_14_method_44_code 18 = .ok (.iaload, 1) := ge_iaload (by decide +kernel)
theorem d_X12_pass_19 : decode prog_14_method_44_code 19 = .ok (.iload_n 1, 1) := ge_iload_n_1 (by decide +kernel)
theorem d_X12_pass_20 : decode prog_14_method_44_code 20 = .ok (.iadd, 1) := ge_iadd (by decide +kernel)
theorem d_X12_pass_21 : decode prog_14_method_44_code 21 = .ok (.sipush 9999, 3) := ge_sipush (by decide +kernel)
theorem d_X12_pass_24 : decode prog_14_method_44_code 24 = .ok (.if_icmp .le 6, 3) := ge_if_icmp_le (by decide +kernel)
theorem d_X12_pass_27 : decode prog_14_method_44_code 27 = .ok (.bipush (-3), 2) := ge_bipush (by decide +kernel)
theorem d_X12_pass_29 : decode prog_14_method_44_code 29 = .ok (.ireturn, 1) := ge_ireturn (by decide +kernel)
theorem d_X12_pass_30 : decode prog_14_method_44_code 30 = .ok (.aload_n 0, 1) := ge_aload_n_0 (by decide +kernel)
theorem d_X12_pass_31 : decode prog_14_method_44_code 31 = .ok (.iload_n 1, 1) := ge_iload_n_1 (by decide +kernel)
theorem d_X12_pass_32 : decode prog_14_method_44_code 32 = .ok (.invokevirtual 180, 3) := ge_invokevirtual (by decide +kernel)
theorem d_X12_pass_35 : decode prog_14_method_44_code 35 = .ok (.aload_n 0, 1) := ge_aload_n_0 (by decide +kernel)
theorem d_X12_pass_36 : decode prog_14_method_44_code 36 = .ok (.getfield 9, 3) := ge_getfield (by decide +kernel)
theorem d_X12_pass_39 : decode prog_14_method_44_code 39 = .ok (.iconst 0, 1) := ge_iconst_0 (by decide +kernel)
theorem d_X12_pass_40 : decode prog_14_method_44_code 40 = .ok (.iaload, 1) := ge_iaload (by decide +kernel)
theorem d_X12_pass_41 : decode prog_14_method_44_code 41 = .ok (.ireturn, 1) := ge_ireturn (by decide +kernel)
def f_X12_pass (a0 : Nat) (a1 : Int32) (μ : gm_M) : Option (Option Value × gm_M) := gm_bI (f_X12_in a1 (0 : Int32) (60 : Int32) μ) (fun x2 m1 => if x2 ≠ 0 then gm_gR m1 [17] a0 1 (fun v3 => gm_aI m1 v3 (0 : Int32) (fun v4 => if (v4 + a1) ≤ (9999 : Int32) then if gm_tag m1 a0 = 17 then gm_bV (f_X12_goesOn a0 a1 m1) (fun m5 => gm_gR m5 [17] a0 1 (fun v7 => gm_aI m5 v7 (0 : Int32) (fun v8 => some (some (.int v8), m5)))) else none else some (some (.int (-3 : Int32)), m1))) else some (some (.int (-2 : Int32)), m1))
set_option maxHeartbeats 4000000 in
theorem c_X12_pass (a0 : Nat) (a1 : Int32) (μ : gm_M) : gm_Call ({ cls := "GumBubbleModel", name := "pass", desc := "(I)I" } : Jvm.MethodName) prog_14_method_44_code 2 (some .int) 5 0 0 [.ref a0, .int a1] μ (f_X12_pass a0 a1 μ) := by
  refine gm_start PN_12 (Nat.le_of_ble_eq_true rfl) (fun res μe => ?_)
  unfold f_X12_pass
  show gm_A "GumBubbleModel" (gm_nm "pass") _ _ _ _ _ _ _ _ _ 0 [(0, .ref a0), (1, .int a1)] [] _ _
  refine gm_iload_n d_X12_pass_0 rfl 1 rfl ?_
  refine gm_iconst (v := 0) d_X12_pass_1 (by decide) ?_
  refine gm_bipush (v := 60) d_X12_pass_2 (by decide) ?_
  refine gm_callS [.int a1, .int (0 : Int32), .int (60 : Int32)] (c_X12_in a1 (0 : Int32) (60 : Int32) μ) B_X12_in gw_964 rfl rfl rfl d_X12_pass_4 (gm_kI (fun x2 m1 => ?_))
  refine gm_if_ne (tgt := 13) d_X12_pass_7 (by decide) (fun h7 => ?_) (fun h7 => ?_)
  ·
    refine gm_aload_n d_X12_pass_13 rfl 0 rfl ?_
    refine gm_getR F_12_s gw_890 d_X12_pass_14 (fun v3 _ => ?_)
    refine gm_iconst (v := 0) d_X12_pass_17 (by decide) ?_
    refine gm_iald d_X12_pass_18 (fun v4 _ => ?_)
    refine gm_iload_n d_X12_pass_19 rfl 1 rfl ?_
    refine gm_iadd d_X12_pass_20 ?_
    refine gm_sipush (v := 9999) d_X12_pass_21 (by decide) ?_
    refine gm_icmp_le (tgt := 30) d_X12_pass_24 (by decide) (fun h24 => ?_) (fun h24 => ?_)
    ·
      refine gm_aload_n d_X12_pass_30 rfl 0 rfl ?_
      refine gm_iload_n d_X12_pass_31 rfl 1 rfl ?_
      refine gm_grd (fun g32 => ?_)
      refine gm_callV (k0 := 12) [.int a1] (c_X12_goesOn a0 a1 m1) g32 rfl B_X12_goesOn gw_1110 gs_49 rfl rfl rfl d_X12_pass_32 (gm_kV (fun m5 => ?_))
      refine gm_aload_n d_X12_pass_35 rfl 0 rfl ?_
      refine gm_getR F_12_s gw_890 d_X12_pass_36 (fun v7 _ => ?_)
      refine gm_iconst (v := 0) d_X12_pass_39 (by decide) ?_
      refine gm_iald d_X12_pass_40 (fun v8 _ => ?_)
      exact gm_iret rfl d_X12_pass_41 (Nat.le_of_ble_eq_true rfl) (Nat.le_of_ble_eq_true rfl) (fun h => h)
    ·
      refine gm_bipush (v := -3) d_X12_pass_27 (by decide) ?_
      exact gm_iret rfl d_X12_pass_29 (Nat.le_of_ble_eq_true rfl) (Nat.le_of_ble_eq_true rfl) (fun h => h)
  ·
    refine gm_bipush (v := -2) d_X12_pass_10 (by decide) ?_
    exact gm_iret rfl d_X12_pass_12 (Nat.le_of_ble_eq_true rfl) (Nat.le_of_ble_eq_true rfl) (fun h => h)
theorem d_X12_pieces_0 : decode prog_14_method_49_code 0 = .ok (.aload_n 0, 1) := ge_aload_n_0 (by decide +kernel)
theorem d_X12_pieces_1 : decode prog_14_method_49_code 1 = .ok (.iload_n 1, 1) := ge_iload_n_1 (by decide +kernel)
theorem d_X12_pieces_2 : decode prog_14_method_49_code 2 = .ok (.invokevirtual 154, 3) := ge_invokevirtual (by decide +kernel)
theorem d_X12_pieces_5 : decode prog_14_method_49_code 5 = .ok (.ifCond .eq 12, 3) := ge_ifCond_eq (by decide +kernel)
theorem d_X12_pieces_8 : decode prog_14_method_49_code 8 = .ok (.iload_n 2, 1) := ge_iload_n_2 (by decide +kernel)
theorem d_X12_pieces_9 : decode prog_14_method_49_code 9 = .ok (.iconst 0, 1) := ge_iconst_0 (by decide +kernel)
theorem d_X12_pieces_10 : decode prog_14_method_49_code 10 = .ok (.iconst 1, 1) := ge_iconst_1 (by decide +kernel)
theorem d_X12_pieces_11 : decode prog_14_method_49_code 11 = .ok (.invokestatic 44, 3) := ge_invokestatic (by decide +kernel)
theorem d_X12_pieces_14 : decode prog_14_method_49_code 14 = .ok (.ifCond .ne 5, 3) := ge_ifCond_ne (by decide +kernel)
theorem d_X12_pieces_17 : decode prog_14_method_49_code 17 = .ok (.iconst (-1), 1) := ge_iconst_m1_ (by decide +kernel)
theorem d_X12_pieces_18 : decode prog_14_method_49_code 18 = .ok (.ireturn, 1) := ge_ireturn (by decide +kernel)
theorem d_X12_pieces_19 : decode prog_14_method_49_code 19 = .ok (.iconst 0, 1) := ge_iconst_0 (by decide +kernel)
theorem d_X12_pieces_20 : decode prog_14_method_49_code 20 = .ok (.istore_n 3, 1) := ge_istore_n_3 (by decide +kernel)
theorem d_X12_pieces_21 : decode prog_14_method_49_code 21 = .ok (.iconst (-1), 1) := ge_iconst_m1_ (by decide +kernel)
theorem d_X12_pieces_22 : decode prog_14_method_49_code 22 = .ok (.istore 4, 2) := ge_istore (by decide +kernel)
theorem d_X12_pieces_24 : decode prog_14_method_49_code 24 = .ok (.aload_n 0, 1) := ge_aload_n_0 (by decide +kernel)
theorem d_X12_pieces_25 : decode prog_14_method_49_code 25 = .ok (.invokevirtual 183, 3) := ge_invokevirtual (by decide +kernel)
theorem d_X12_pieces_28 : decode prog_14_method_49_code 28 = .ok (.iconst 0, 1) := ge_iconst_0 (by decide +kernel)
theorem d_X12_pieces_29 : decode prog_14_method_49_code 29 = .ok (.istore 5, 2) := ge_istore (by decide +kernel)
theorem d_X12_pieces_31 : decode prog_14_method_49_code 31 = .ok (.iload 5, 2) := ge_iload (by decide +kernel)
theorem d_X12_pieces_33 : decode prog_14_method_49_code 33 = .ok (.bipush 6, 2) := ge_bipush (by decide +kernel)
theorem d_X12_pieces_35 : decode prog_14_method_49_code 35 = .ok (.if_icmp .gt 86, 3) := ge_if_icmp_gt (by decide +kernel)
theorem d_X12_pieces_38 : decode prog_14_method_49_code 38 = .ok (.aload_n 0, 1) := ge_aload_n_0 (by decide +kernel)
theorem d_X12_pieces_39 : decode prog_14_method_49_code 39 = .ok (.getfield 9, 3) := ge_getfield (by decide +kernel)
theorem d_X12_pieces_42 : decode prog_14_method_49_code 42 = .ok (.iconst 1, 1) := ge_iconst_1 (by decide +kernel)
theorem d_X12_pieces_43 : decode prog_14_method_49_code 43 = .ok (.iload_n 1, 1) := ge_iload_n_1 (by decide +kernel)
theorem d_X12_pieces_44 : decode prog_14_method_49_code 44 = .ok (.iadd, 1) := ge_iadd (by decide +kernel)
theorem d_X12_pieces_45 : decode prog_14_method_49_code 45 = .ok (.iload 5, 2) := ge_iload (by decide +kernel)
theorem d_X12_pieces_47 : decode prog_14_method_49_code 47 = .ok (.iastore, 1) := ge_iastore (by decide +kernel)
theorem d_X12_pieces_48 : decode prog_14_method_49_code 48 = .ok (.aload_n 0, 1) := ge_aload_n_0 (by decide +kernel)
theorem d_X12_pieces_49 : decode prog_14_method_49_code 49 = .ok (.getfield 9, 3) := ge_getfield (by decide +kernel)
theorem d_X12_pieces_52 : decode prog_14_method_49_code 52 = .ok (.bipush 6, 2) := ge_bipush (by decide +kernel)
theorem d_X12_pieces_54 : decode prog_14_method_49_code 54 = .ok (.iload_n 1, 1) := ge_iload_n_1 (by decide +kernel)
theorem d_X12_pieces_55 : decode prog_14_method_49_code 55 = .ok (.iadd, 1) := ge_iadd (by decide +kernel)
theorem d_X12_pieces_56 : decode prog_14_method_49_code 56 = .ok (.iload 5, 2) := ge_iload (by decide +kernel)
theorem d_X12_pieces_58 : decode prog_14_method_49_code 58 = .ok (.aload_n 0, 1) := ge_aload_n_0 (by decide +kernel)
theorem d_X12_pieces_59 : decode prog_14_method_49_code 59 = .ok (.invokevirtual 151, 3) := ge_invokevirtual (by decide +kernel)
theorem d_X12_pieces_62 : decode prog_14_method_49_code 62 = .ok (.imul, 1) := ge_imul (by decide +kernel)
theorem d_X12_pieces_63 : decode prog_14_method_49_code 63 = .ok (.iastore, 1) := ge_iastore (by decide +kernel)
theorem d_X12_pieces_64 : decode prog_14_method_49_code 64 = .ok (.aload_n 0, 1) := ge_aload_n_0 (by decide +kernel)
theorem d_X12_pieces_65 : decode prog_14_method_49_code 65 = .ok (.getfield 9, 3) := ge_getfield (by decide +kernel)
theorem d_X12_pieces_68 : decode prog_14_method_49_code 68 = .ok (.bipush 16, 2) := ge_bipush (by decide +kernel)
theorem d_X12_pieces_70 : decode prog_14_method_49_code 70 = .ok (.iload_n 1, 1) := ge_iload_n_1 (by decide +kernel)
theorem d_X12_pieces_71 : decode prog_14_method_49_code 71 = .ok (.iadd, 1) := ge_iadd (by decide +kernel)
theorem d_X12_pieces_72 : decode prog_14_method_49_code 72 = .ok (.iconst 0, 1) := ge_iconst_0 (by decide +kernel)
theorem d_X12_pieces_73 : decode prog_14_method_49_code 73 = .ok (.iastore, 1) := ge_iastore (by decide +kernel)
theorem d_X12_pieces_74 : decode prog_14_method_49_code 74 = .ok (.aload_n 0, 1) := ge_aload_n_0 (by decide +kernel)
theorem d_X12_pieces_75 : decode prog_14_method_49_code 75 = .ok (.iload_n 1, 1) := ge_iload_n_1 (by decide +kernel)
theorem d_X12_pieces_76 : decode prog_14_method_49_code 76 = .ok (.invokevirtual 198, 3) := ge_invokevirtual (by decide +kernel)
theorem d_X12_pieces_79 : decode prog_14_method_49_code 79 = .ok (.aload_n 0, 1) := ge_aload_n_0 (by decide +kernel)
theorem d_X12_pieces_80 : decode prog_14_method_49_code 80 = .ok (.getfield 192, 3) := ge_getfield (by decide +kernel)
theorem d_X12_pieces_83 : decode prog_14_method_49_code 83 = .ok (.iload 4, 2) := ge_iload (by decide +kernel)
theorem d_X12_pieces_85 : decode prog_14_method_49_code 85 = .ok (.if_icmp .le 8, 3) := ge_if_icmp_le (by decide +kernel)
theorem d_X12_pieces_88 : decode prog_14_method_49_code 88 = .ok (.iload 5, 2) := ge_iload (by decide +kernel)
theorem d_X12_pieces_90 : decode prog_14_method_49_code 90 = .ok (.goto 4, 3) := ge_goto (by decide +kernel)
theorem d_X12_pieces_93 : decode prog_14_method_49_code 93 = .ok (.iload_n 3, 1) := ge_iload_n_3 (by decide +kernel)
theorem d_X12_pieces_94 : decode prog_14_method_49_code 94 = .ok (.istore_n 3, 1) := ge_istore_n_3 (by decide +kernel)
theorem d_X12_pieces_95 : decode prog_14_method_49_code 95 = .ok (.aload_n 0, 1) := ge_aload_n_0 (by decide +kernel)
theorem d_X12_pieces_96 : decode prog_14_method_49_code 96 = .ok (.getfield 192, 3) := ge_getfield (by decide +kernel)
theorem d_X12_pieces_99 : decode prog_14_method_49_code 99 = .ok (.iload 4, 2) := ge_iload (by decide +kernel)
theorem d_X12_pieces_101 : decode prog_14_method_49_code 101 = .ok (.if_icmp .le 10, 3) := ge_if_icmp_le (by decide +kernel)
theorem d_X12_pieces_104 : decode prog_14_method_49_code 104 = .ok (.aload_n 0, 1) := ge_aload_n_0 (by decide +kernel)
theorem d_X12_pieces_105 : decode prog_14_method_49_code 105 = .ok (.getfield 192, 3) := ge_getfield (by decide +kernel)
theorem d_X12_pieces_108 : decode prog_14_method_49_code 108 = .ok (.goto 5, 3) := ge_goto (by decide +kernel)
theorem d_X12_pieces_111 : decode prog_14_method_49_code 111 = .ok (.iload 4, 2) := ge_iload (by decide +kernel)
theorem d_X12_pieces_113 : decode prog_14_method_49_code 113 = .ok (.istore 4, 2) := ge_istore (by decide +kernel)
theorem d_X12_pieces_115 : decode prog_14_method_49_code 115 = .ok (.iinc 5 1, 3) := ge_iinc (by decide +kernel)
theorem d_X12_pieces_118 : decode prog_14_method_49_code 118 = .ok (.goto (-87), 3) := ge_goto (by decide +kernel)
theorem d_X12_pieces_121 : decode prog_14_method_49_code 121 = .ok (.iload_n 2, 1) := ge_iload_n_2 (by decide +kernel)
theorem d_X12_pieces_122 : decode prog_14_method_49_code 122 = .ok (.ifCond .ne 7, 3) := ge_ifCond_ne (by decide +kernel)
theorem d_X12_pieces_125 : decode prog_14_method_49_code 125 = .ok (.iload_n 3, 1) := ge_iload_n_3 (by decide +kernel)
theorem d_X12_pieces_126 : decode prog_14_method_49_code 126 = .ok (.goto 5, 3) := ge_goto (by decide +kernel)
theorem d_X12_pieces_129 : decode prog_14_method_49_code 129 = .ok (.iload 4, 2) := ge_iload (by decide +kernel)
theorem d_X12_pieces_131 : decode prog_14_method_49_code 131 = .ok (.ireturn, 1) := ge_ireturn (by decide +kernel)
def f_X12_pieces (a0 : Nat) (a1 : Int32) (a2 : Int32) (μ : gm_M) : Option (Option Value × gm_M) := if gm_tag μ a0 = 17 then gm_bI (f_X12_isChild a0 a1 μ) (fun x2 m1 => if x2 = 0 then some (some (.int (-1 : Int32)), m1) else gm_bI (f_X12_in a2 (0 : Int32) (1 : Int32) m1) (fun x4 m3 => if x4 ≠ 0 then if gm_tag m3 a0 = 17 then gm_bV (f_X12_keeps a0 m3) (fun m5 => gm_loop (fun (s7 : Int32 × Int32 × Int32 × gm_M) => if (6 : Int32) < s7.2.2.1 then if a2 ≠ 0 then some (Sum.inr (some (.int s7.2.1), s7.2.2.2)) else some (Sum.inr (some (.int s7.1), s7.2.2.2)) else gm_gR s7.2.2.2 [17] a0 1 (fun v8 => gm_sI s7.2.2.2 v8 ((1 : Int32) + a1) s7.2.2.1 (fun m9 => gm_gR m9 [17] a0 1 (fun v10 => if gm_tag m9 a0 = 17 then gm_bI (f_X12_sweetNow a0 m9) (fun x12 m11 => gm_sI m11 v10 ((6 : Int32) + a1) (s7.2.2.1 * x12) (fun m13 => gm_gR m13 [17] a0 1 (fun v14 => gm_sI m13 v14 ((16 : Int32) + a1) (0 : Int32) (fun m15 => if gm_tag m15 a0 = 17 then gm_bV (f_X12_looksForWhen a0 a1 m15) (fun m16 => gm_gI m16 [17] a0 13 (fun v18 => gm_j (fun (s19 : Int32) => gm_gI m16 [17] a0 13 (fun v21 => gm_j (fun (s22 : Int32) => some (Sum.inl (s19, s22, (s7.2.2.1 + (1 : Int32)), m16))) (fun j23 => if v21 ≤ s7.2.1 then j23 s7.2.1 else gm_gI m16 [17] a0 13 (fun v24 => j23 v24)))) (fun j20 => if v18 ≤ s7.2.1 then j20 s7.1 else j20 s7.2.2.1))) else none)))) else none)))) 5000 ((0 : Int32), (-1 : Int32), (0 : Int32), m5)) else none else some (some (.int (-1 : Int32)), m3))) else none
set_option maxHeartbeats 4000000 in
theorem c_X12_pieces (a0 : Nat) (a1 : Int32) (a2 : Int32) (μ : gm_M) : gm_Call ({ cls := "GumBubbleModel", name := "pieces", desc := "(II)I" } : Jvm.MethodName) prog_14_method_49_code 6 (some .int) 5 0 0 [.ref a0, .int a1, .int a2] μ (f_X12_pieces a0 a1 a2 μ) := by
  refine gm_start PN_12 (Nat.le_of_ble_eq_true rfl) (fun res μe => ?_)
  unfold f_X12_pieces
  show gm_A "GumBubbleModel" (gm_nm "pieces") _ _ _ _ _ _ _ _ _ 0 [(0, .ref a0), (1, .int a1), (2, .int a2)] [] _ _
  refine gm_aload_n d_X12_pieces_0 rfl 0 rfl ?_
  refine gm_iload_n d_X12_pieces_1 rfl 1 rfl ?_
  refine gm_grd (fun g2 => ?_)
  refine gm_callV (k0 := 12) [.int a1] (c_X12_isChild a0 a1 μ) g2 rfl B_X12_isChild gw_1047 gs_40 rfl rfl rfl d_X12_pieces_2 (gm_kI (fun x2 m1 => ?_))
  refine gm_if_eq (tgt := 17) d_X12_pieces_5 (by decide) (fun h5 => ?_) (fun h5 => ?_)
  ·
    refine gm_iconst (v := -1) d_X12_pieces_17 (by decide) ?_
    exact gm_iret rfl d_X12_pieces_18 (Nat.le_of_ble_eq_true rfl) (Nat.le_of_ble_eq_true rfl) (fun h => h)
  ·
    refine gm_iload_n d_X12_pieces_8 rfl 2 rfl ?_
    refine gm_iconst (v := 0) d_X12_pieces_9 (by decide) ?_
    refine gm_iconst (v := 1) d_X12_pieces_10 (by decide) ?_
    refine gm_callS [.int a2, .int (0 : Int32), .int (1 : Int32)] (c_X12_in a2 (0 : Int32) (1 : Int32) m1) B_X12_in gw_964 rfl rfl rfl d_X12_pieces_11 (gm_kI (fun x4 m3 => ?_))
    refine gm_if_ne (tgt := 19) d_X12_pieces_14 (by decide) (fun h14 => ?_) (fun h14 => ?_)
    ·
      refine gm_iconst (v := 0) d_X12_pieces_19 (by decide) ?_
      refine gm_istore_n (L' := [(3, .int (0 : Int32)), (0, .ref a0), (1, .int a1), (2, .int a2)]) d_X12_pieces_20 rfl (Nat.le_of_ble_eq_true rfl) rfl ?_
      refine gm_iconst (v := -1) d_X12_pieces_21 (by decide) ?_
      refine gm_istore (L' := [(4, .int (-1 : Int32)), (3, .int (0 : Int32)), (0, .ref a0), (1, .int a1), (2, .int a2)]) d_X12_pieces_22 (Nat.le_of_ble_eq_true rfl) rfl ?_
      refine gm_aload_n d_X12_pieces_24 rfl 2 rfl ?_
      refine gm_grd (fun g25 => ?_)
      refine gm_callV (k0 := 12) [] (c_X12_keeps a0 m3) g25 rfl B_X12_keeps gw_1126 gs_52 rfl rfl rfl d_X12_pieces_25 (gm_kV (fun m5 => ?_))
      refine gm_iconst (v := 0) d_X12_pieces_28 (by decide) ?_
      refine gm_istore (L' := [(5, .int (0 : Int32)), (4, .int (-1 : Int32)), (3, .int (0 : Int32)), (0, .ref a0), (1, .int a1), (2, .int a2)]) d_X12_pieces_29 (Nat.le_of_ble_eq_true rfl) rfl ?_
      refine gm_sub (L' := [(0, .ref a0), (1, .int a1), (2, .int a2), (3, .int (0 : Int32)), (4, .int (-1 : Int32)), (5, .int (0 : Int32))]) [3, 4, 5, 2, 1, 0] rfl ?_
      refine gm_lp (S := Int32 × Int32 × Int32 × gm_M) (fun _ => 0) (fun _ => 0) (fun s7 => s7.2.2.2) (fun s7 => [(0, .ref a0), (1, .int a1), (2, .int a2), (3, .int s7.1), (4, .int s7.2.1), (5, .int s7.2.2.1)]) (fun _ => []) (fun s7 => ?_) 5000 ((0 : Int32), (-1 : Int32), (0 : Int32), m5)
      refine gm_iload d_X12_pieces_31 5 rfl ?_
      refine gm_bipush (v := 6) d_X12_pieces_33 (by decide) ?_
      refine gm_icmp_gt (tgt := 121) d_X12_pieces_35 (by decide) (fun h35 => ?_) (fun h35 => ?_)
      ·
        refine gm_iload_n d_X12_pieces_121 rfl 2 rfl ?_
        refine gm_if_ne (tgt := 129) d_X12_pieces_122 (by decide) (fun h122 => ?_) (fun h122 => ?_)
        ·
          refine gm_iload d_X12_pieces_129 4 rfl ?_
          exact gm_iret rfl d_X12_pieces_131 (Nat.le_of_ble_eq_true rfl) (Nat.le_of_ble_eq_true rfl) (fun h => h)
        ·
          refine gm_iload_n d_X12_pieces_125 rfl 3 rfl ?_
          refine gm_goto (tgt := 131) d_X12_pieces_126 (by decide) ?_
          exact gm_iret rfl d_X12_pieces_131 (Nat.le_of_ble_eq_true rfl) (Nat.le_of_ble_eq_true rfl) (fun h => h)
      ·
        refine gm_aload_n d_X12_pieces_38 rfl 0 rfl ?_
        refine gm_getR F_12_s gw_890 d_X12_pieces_39 (fun v8 _ => ?_)
        refine gm_iconst (v := 1) d_X12_pieces_42 (by decide) ?_
        refine gm_iload_n d_X12_pieces_43 rfl 1 rfl ?_
        refine gm_iadd d_X12_pieces_44 ?_
        refine gm_iload d_X12_pieces_45 5 rfl ?_
        refine gm_iast d_X12_pieces_47 (fun m9 _ => ?_)
        refine gm_aload_n d_X12_pieces_48 rfl 0 rfl ?_
        refine gm_getR F_12_s gw_890 d_X12_pieces_49 (fun v10 _ => ?_)
        refine gm_bipush (v := 6) d_X12_pieces_52 (by decide) ?_
        refine gm_iload_n d_X12_pieces_54 rfl 1 rfl ?_
        refine gm_iadd d_X12_pieces_55 ?_
        refine gm_iload d_X12_pieces_56 5 rfl ?_
        refine gm_aload_n d_X12_pieces_58 rfl 0 rfl ?_
        refine gm_grd (fun g59 => ?_)
        refine gm_callV (k0 := 12) [] (c_X12_sweetNow a0 m9) g59 rfl B_X12_sweetNow gw_1035 gs_38 rfl rfl rfl d_X12_pieces_59 (gm_kI (fun x12 m11 => ?_))
        refine gm_imul d_X12_pieces_62 ?_
        refine gm_iast d_X12_pieces_63 (fun m13 _ => ?_)
        refine gm_aload_n d_X12_pieces_64 rfl 0 rfl ?_
        refine gm_getR F_12_s gw_890 d_X12_pieces_65 (fun v14 _ => ?_)
        refine gm_bipush (v := 16) d_X12_pieces_68 (by decide) ?_
        refine gm_iload_n d_X12_pieces_70 rfl 1 rfl ?_
        refine gm_iadd d_X12_pieces_71 ?_
        refine gm_iconst (v := 0) d_X12_pieces_72 (by decide) ?_
        refine gm_iast d_X12_pieces_73 (fun m15 _ => ?_)
        refine gm_aload_n d_X12_pieces_74 rfl 0 rfl ?_
        refine gm_iload_n d_X12_pieces_75 rfl 1 rfl ?_
        refine gm_grd (fun g76 => ?_)
        refine gm_callV (k0 := 12) [.int a1] (c_X12_looksForWhen a0 a1 m15) g76 rfl B_X12_looksForWhen gw_1138 gs_54 rfl rfl rfl d_X12_pieces_76 (gm_kV (fun m16 => ?_))
        refine gm_aload_n d_X12_pieces_79 rfl 0 rfl ?_
        refine gm_getI F_12_mostHeld gw_902 d_X12_pieces_80 (fun v18 _ => ?_)
        refine gm_iload d_X12_pieces_83 4 rfl ?_
        refine gm_join (S := Int32) (pj := 94) (kj := 0) (nj := 0) (fun s19 => m16) (fun s19 => [(0, .ref a0), (1, .int a1), (2, .int a2), (3, .int s7.1), (4, .int s7.2.1), (5, .int s7.2.2.1)]) (fun s19 => [.int s19]) (fun s19 => ?_) (fun j20 hj20 => ?_)
        ·
          refine gm_istore_n (L' := [(3, .int s19), (0, .ref a0), (1, .int a1), (2, .int a2), (4, .int s7.2.1), (5, .int s7.2.2.1)]) d_X12_pieces_94 rfl (Nat.le_of_ble_eq_true rfl) rfl ?_
          refine gm_aload_n d_X12_pieces_95 rfl 1 rfl ?_
          refine gm_getI F_12_mostHeld gw_902 d_X12_pieces_96 (fun v21 _ => ?_)
          refine gm_iload d_X12_pieces_99 4 rfl ?_
          refine gm_join (S := Int32) (pj := 113) (kj := 0) (nj := 0) (fun s22 => m16) (fun s22 => [(0, .ref a0), (1, .int a1), (2, .int a2), (3, .int s19), (4, .int s7.2.1), (5, .int s7.2.2.1)]) (fun s22 => [.int s22]) (fun s22 => ?_) (fun j23 hj23 => ?_)
          ·
            refine gm_istore (L' := [(4, .int s22), (0, .ref a0), (1, .int a1), (2, .int a2), (3, .int s19), (5, .int s7.2.2.1)]) d_X12_pieces_113 (Nat.le_of_ble_eq_true rfl) rfl ?_
            refine gm_iinc (v := s7.2.2.1 + (1 : Int32)) (L' := [(5, .int (s7.2.2.1 + (1 : Int32))), (4, .int s22), (0, .ref a0), (1, .int a1), (2, .int a2), (3, .int s19)]) d_X12_pieces_115 5 rfl rfl (Nat.le_of_ble_eq_true rfl) rfl ?_
            refine gm_goto (tgt := 31) d_X12_pieces_118 (by decide) ?_
            refine gm_sub (L' := [(0, .ref a0), (1, .int a1), (2, .int a2), (3, .int s19), (4, .int s22), (5, .int (s7.2.2.1 + (1 : Int32)))]) [2, 3, 4, 5, 1, 0] rfl ?_
            exact gm_back (fun h => h)
          ·
            refine gm_icmp_le (tgt := 111) d_X12_pieces_101 (by decide) (fun h101 => ?_) (fun h101 => ?_)
            ·
              refine gm_iload d_X12_pieces_111 4 rfl ?_
              refine gm_sub (L' := [(0, .ref a0), (1, .int a1), (2, .int a2), (3, .int s19), (4, .int s7.2.1), (5, .int s7.2.2.1)]) [1, 2, 3, 0, 4, 5] rfl ?_
              exact hj23 s7.2.1
            ·
              refine gm_aload_n d_X12_pieces_104 rfl 1 rfl ?_
              refine gm_getI F_12_mostHeld gw_902 d_X12_pieces_105 (fun v24 _ => ?_)
              refine gm_goto (tgt := 113) d_X12_pieces_108 (by decide) ?_
              refine gm_sub (L' := [(0, .ref a0), (1, .int a1), (2, .int a2), (3, .int s19), (4, .int s7.2.1), (5, .int s7.2.2.1)]) [1, 2, 3, 0, 4, 5] rfl ?_
              exact hj23 v24
        ·
          refine gm_icmp_le (tgt := 93) d_X12_pieces_85 (by decide) (fun h85 => ?_) (fun h85 => ?_)
          ·
            refine gm_iload_n d_X12_pieces_93 rfl 3 rfl ?_
            exact hj20 s7.1
          ·
            refine gm_iload d_X12_pieces_88 5 rfl ?_
            refine gm_goto (tgt := 94) d_X12_pieces_90 (by decide) ?_
            exact hj20 s7.2.2.1
    ·
      refine gm_iconst (v := -1) d_X12_pieces_17 (by decide) ?_
      exact gm_iret rfl d_X12_pieces_18 (Nat.le_of_ble_eq_true rfl) (Nat.le_of_ble_eq_true rfl) (fun h => h)
theorem d_X12_plan_0 : decode prog_14_method_73_code 0 = .ok (.iload_n 1, 1) := ge_iload_n_1 (by decide +kernel)
theorem d_X12_plan_1 : decode prog_14_method_73_code 1 = .ok (.iconst (-1), 1) := ge_iconst_m1_ (by decide +kernel)
theorem d_X12_plan_2 : decode prog_14_method_73_code 2 = .ok (.if_icmp .ne 13, 3) := ge_if_icmp_ne (by decide +kernel)
theorem d_X12_plan_5 : decode prog_14_method_73_code 5 = .ok (.aload_n 0, 1) := ge_aload_n_0 (by decide +kernel)
theorem d_X12_plan_6 : decode prog_14_method_73_code 6 = .ok (.getfield 9, 3) := ge_getfield (by decide +kernel)
theorem d_X12_plan_9 : decode prog_14_method_73_code 9 = .ok (.bipush 29, 2) := ge_bipush (by decide +kernel)
theorem d_X12_plan_11 : decode prog_14_method_73_code 11 = .ok (.iconst 0, 1) := ge_iconst_0 (by decide +kernel)
theorem d_X12_plan_12 : decode prog_14_method_73_code 12 = .ok (.iastore, 1) := ge_iastore (by decide +kernel)
theorem d_X12_plan_13 : decode prog_14_method_73_code 13 = .ok (.iconst 0, 1) := ge_iconst_0 (by decide +kernel)
theorem d_X12_plan_14 : decode prog_14_method_73_code 14 = .ok (.ireturn, 1) := ge_ireturn (by decide +kernel)
theorem d_X12_plan_15 : decode prog_14_method_73_code 15 = .ok (.iload_n 1, 1) := ge_iload_n_1 (by decide +kernel)
theorem d_X12_plan_16 : decode prog_14_method_73_code 16 = .ok (.iconst 0, 1) := ge_iconst_0 (by decide +kernel)
theorem d_X12_plan_17 : decode prog_14_method_73_code 17 = .ok (.iconst 3, 1) := ge_iconst_3 (by decide +kernel)
theorem d_X12_plan_18 : decode prog_14_method_73_code 18 = .ok (.invokestatic 44, 3) := ge_invokestatic (by decide +kernel)
theorem d_X12_plan_21 : decode prog_14_method_73_code 21 = .ok (.ifCond .eq 15, 3) := ge_ifCond_eq (by decide +kernel)
theorem d_X12_plan_24 : decode prog_14_method_73_code 24 = .ok (.iload_n 1, 1) := ge_iload_n_1 (by decide +kernel)
theorem d_X12_plan_25 : decode prog_14_method_73_code 25 = .ok (.ifCond .le 13, 3) := ge_ifCond_le (by decide +kernel)
theorem d_X12_plan_28 : decode prog_14_method_73_code 28 = .ok (.aload_n 0, 1) := ge_aload_n_0 (by decide +kernel)
theorem d_X12_plan_29 : decode prog_14_method_73_code 29 = .ok (.iload_n 2, 1) := ge_iload_n_2 (by decide +kernel)
theorem d_X12_plan_30 : decode prog_14_method_73_code 30 = .ok (.invokevirtual 154, 3) := ge_invokevirtual (by decide +kernel)
theorem d_X12_plan_33 : decode prog_14_method_73_code 33 = .ok (.ifCond .ne 5, 3) := ge_ifCond_ne (by decide +kernel)
theorem d_X12_plan_36 : decode prog_14_method_73_code 36 = .ok (.iconst (-1), 1) := ge_iconst_m1_ (by decide +kernel)
theorem d_X12_plan_37 : decode prog_14_method_73_code 37 = .ok (.ireturn, 1) := ge_ireturn (by decide +kernel)
theorem d_X12_plan_38 : decode prog_14_method_73_code 38 = .ok (.aload_n 0, 1) := ge_aload_n_0 (by decide +kernel)
theorem d_X12_plan_39 : decode prog_14_method_73_code 39 = .ok (.getfield 9, 3) := ge_getfield (by decide +kernel)
theorem d_X12_plan_42 : decode prog_14_method_73_code 42 = .ok (.bipush 29, 2) := ge_bipush (by decide +kernel)
theorem d_X12_plan_44 : decode prog_14_method_73_code 44 = .ok (.iaload, 1) := ge_iaload (by decide +kernel)
theorem d_X12_plan_45 : decode prog_14_method_73_code 45 = .ok (.bipush 8, 2) := ge_bipush (by decide +kernel)
theorem d_X12_plan_47 : decode prog_14_method_73_code 47 = .ok (.if_icmp .ne 6, 3) := ge_if_icmp_ne (by decide +kernel)
theorem d_X12_plan_50 : decode prog_14_method_73_code 50 = .ok (.bipush (-4), 2) := ge_bipush (by decide +kernel)
theorem d_X12_plan_52 : decode prog_14_method_73_code 52 = .ok (.ireturn, 1) := ge_ireturn (by decide +kernel)
theorem d_X12_plan_53 : decode prog_14_method_73_code 53 = .ok (.aload_n 0, 1) := ge_aload_n_0 (by decide +kernel)
theorem d_X12_plan_54 : decode prog_14_method_73_code 54 = .ok (.getfield 9, 3) := ge_getfield (by decide +kernel)
theorem d_X12_plan_57 : decode prog_14_method_73_code 57 = .ok (.bipush 78, 2) := ge_bipush (by decide +kernel)
theorem d_X12_plan_59 : decode prog_14_method_73_code 59 = .ok (.aload_n 0, 1) := ge_aload_n_0 (by decide +kernel)
theorem d_X12_plan_60 : decode prog_14_method_73_code 60 = .ok (.getfield 9, 3) := ge_getfield (by decide +kernel)
theorem d_X12_plan_63 : decode prog_14_method_73_code 63 = .ok (.bipush 29, 2) := ge_bipush (by decide +kernel)
theorem d_X12_plan_65 : decode prog_14_method_73_code 65 = .ok (.iaload, 1) := ge_iaload (by decide +kernel)
theorem d_X12_plan_66 : decode prog_14_method_73_code 66 = .ok (.iadd, 1) := ge_iadd (by decide +kernel)
theorem d_X12_plan_67 : decode prog_14_method_73_code 67 = .ok (.iload_n 1, 1) := ge_iload_n_1 (by decide +kernel)
theorem d_X12_plan_68 : decode prog_14_method_73_code 68 = .ok (.iastore, 1) := ge_iastore (by decide +kernel)
theorem d_X12_plan_69 : decode prog_14_method_73_code 69 = .ok (.aload_n 0, 1) := ge_aload_n_0 (by decide +kernel)
theorem d_X12_plan_70 : decode prog_14_method_73_code 70 = .ok (.getfield 9, 3) := ge_getfield (by decide +kernel)
theorem d_X12_plan_73 : decode prog_14_method_73_code 73 = .ok (.bipush 86, 2) := ge_bipush (by decide +kernel)
theorem d_X12_plan_75 : decode prog_14_method_73_code 75 = .ok (.aload_n 0, 1) := ge_aload_n_0 (by decide +kernel)
theorem d_X12_plan_76 : decode prog_14_method_73_code 76 = .ok (.getfield 9, 3) := ge_getfield (by decide +kernel)
theorem d_X12_plan_79 : decode prog_14_method_73_code 79 = .ok (.bipush 29, 2) := ge_bipush (by decide +kernel)
theorem d_X12_plan_81 : decode prog_14_method_73_code 81 = .ok (.iaload, 1) := ge_iaload (by decide +kernel)
theorem d_X12_plan_82 : decode prog_14_method_73_code 82 = .ok (.iadd, 1) := ge_iadd (by decide +kernel)
theorem d_X12_plan_83 : decode prog_14_method_73_code 83 = .ok (.iload_n 2, 1) := ge_iload_n_2 (by decide +kernel)
theorem d_X12_plan_84 : decode prog_14_method_73_code 84 = .ok (.iastore, 1) := ge_iastore (by decide +kernel)
theorem d_X12_plan_85 : decode prog_14_method_73_code 85 = .ok (.aload_n 0, 1) := ge_aload_n_0 (by decide +kernel)
theorem d_X12_plan_86 : decode prog_14_method_73_code 86 = .ok (.getfield 9, 3) := ge_getfield (by decide +kernel)
theorem d_X12_plan_89 : decode prog_14_method_73_code 89 = .ok (.bipush 29, 2) := ge_bipush (by decide +kernel)
theorem d_X12_plan_91 : decode prog_14_method_73_code 91 = .ok (.dup2, 1) := ge_dup2 (by decide +kernel)
theorem d_X12_plan_92 : decode prog_14_method_73_code 92 = .ok (.iaload, 1) := ge_iaload (by decide +kernel)
theorem d_X12_plan_93 : decode prog_14_method_73_code 93 = .ok (.iconst 1, 1) := ge_iconst_1 (by decide +kernel)
theorem d_X12_plan_94 : decode prog_14_method_73_code 94 = .ok (.iadd, 1) := ge_iadd (by decide +kernel)
theorem d_X12_plan_95 : decode prog_14_method_73_code 95 = .ok (.iastore, 1) := ge_iastore (by decide +kernel)
theorem d_X12_plan_96 : decode prog_14_method_73_code 96 = .ok (.aload_n 0, 1) := ge_aload_n_0 (by decide +kernel)
theorem d_X12_plan_97 : decode prog_14_method_73_code 97 = .ok (.getfield 9, 3) := ge_getfield (by decide +kernel)
theorem d_X12_plan_100 : decode prog_14_method_73_code 100 = .ok (.bipush 29, 2) := ge_bipush (by decide +kernel)
theorem d_X12_plan_102 : decode prog_14_method_73_code 102 = .ok (.iaload, 1) := ge_iaload (by decide +kernel)
theorem d_X12_plan_103 : decode prog_14_method_73_code 103 = .ok (.ireturn, 1) := ge_ireturn (by decide +kernel)
def f_X12_plan (a0 : Nat) (a1 : Int32) (a2 : Int32) (μ : gm_M) : Option (Option Value × gm_M) := if a1 ≠ (-1 : Int32) then gm_bI (f_X12_in a1 (0 : Int32) (3 : Int32) μ) (fun x2 m1 => if x2 = 0 then some (some (.int (-1 : Int32)), m1) else gm_j (fun (s3 : gm_M) => gm_gR s3 [17] a0 1 (fun v5 => gm_aI s3 v5 (29 : Int32) (fun v6 => if v6 ≠ (8 : Int32) then gm_gR s3 [17] a0 1 (fun v7 => gm_gR s3 [17] a0 1 (fun v8 => gm_aI s3 v8 (29 : Int32) (fun v9 => gm_sI s3 v7 ((78 : Int32) + v9) a1 (fun m10 => gm_gR m10 [17] a0 1 (fun v11 => gm_gR m10 [17] a0 1 (fun v12 => gm_aI m10 v12 (29 : Int32) (fun v13 => gm_sI m10 v11 ((86 : Int32) + v13) a2 (fun m14 => gm_gR m14 [17] a0 1 (fun v15 => gm_aI m14 v15 (29 : Int32) (fun v16 => gm_sI m14 v15 (29 : Int32) (v16 + (1 : Int32)) (fun m17 => gm_gR m17 [17] a0 1 (fun v18 => gm_aI m17 v18 (29 : Int32) (fun v19 => some (some (.int v19), m17)))))))))))))) else some (some (.int (-4 : Int32)), s3)))) (fun j4 => if a1 ≤ 0 then j4 m1 else if gm_tag m1 a0 = 17 then gm_bI (f_X12_isChild a0 a2 m1) (fun x21 m20 => if x21 ≠ 0 then j4 m20 else some (some (.int (-1 : Int32)), m20)) else none)) else gm_gR μ [17] a0 1 (fun v22 => gm_sI μ v22 (29 : Int32) (0 : Int32) (fun m23 => some (some (.int (0 : Int32)), m23)))
set_option maxHeartbeats 4000000 in
theorem c_X12_plan (a0 : Nat) (a1 : Int32) (a2 : Int32) (μ : gm_M) : gm_Call ({ cls := "GumBubbleModel", name := "plan", desc := "(II)I" } : Jvm.MethodName) prog_14_method_73_code 3 (some .int) 2 0 0 [.ref a0, .int a1, .int a2] μ (f_X12_plan a0 a1 a2 μ) := by
  refine gm_start PN_12 (Nat.le_of_ble_eq_true rfl) (fun res μe => ?_)
  unfold f_X12_plan
  show gm_A "GumBubbleModel" (gm_nm "plan") _ _ _ _ _ _ _ _ _ 0 [(0, .ref a0), (1, .int a1), (2, .int a2)] [] _ _
  refine gm_iload_n d_X12_plan_0 rfl 1 rfl ?_
  refine gm_iconst (v := -1) d_X12_plan_1 (by decide) ?_
  refine gm_icmp_ne (tgt := 15) d_X12_plan_2 (by decide) (fun h2 => ?_) (fun h2 => ?_)
  ·
    refine gm_iload_n d_X12_plan_15 rfl 1 rfl ?_
    refine gm_iconst (v := 0) d_X12_plan_16 (by decide) ?_
    refine gm_iconst (v := 3) d_X12_plan_17 (by decide) ?_
    refine gm_callS [.int a1, .int (0 : Int32), .int (3 : Int32)] (c_X12_in a1 (0 : Int32) (3 : Int32) μ) B_X12_in gw_964 rfl rfl rfl d_X12_plan_18 (gm_kI (fun x2 m1 => ?_))
    refine gm_if_eq (tgt := 36) d_X12_plan_21 (by decide) (fun h21 => ?_) (fun h21 => ?_)
    ·
      refine gm_iconst (v := -1) d_X12_plan_36 (by decide) ?_
      exact gm_iret rfl d_X12_plan_37 (Nat.le_of_ble_eq_true rfl) (Nat.le_of_ble_eq_true rfl) (fun h => h)
    ·
      refine gm_iload_n d_X12_plan_24 rfl 1 rfl ?_
      refine gm_join (S := gm_M) (pj := 38) (kj := 0) (nj := 0) (fun s3 => s3) (fun s3 => [(0, .ref a0), (1, .int a1), (2, .int a2)]) (fun s3 => []) (fun s3 => ?_) (fun j4 hj4 => ?_)
      ·
        refine gm_aload_n d_X12_plan_38 rfl 0 rfl ?_
        refine gm_getR F_12_s gw_890 d_X12_plan_39 (fun v5 _ => ?_)
        refine gm_bipush (v := 29) d_X12_plan_42 (by decide) ?_
        refine gm_iald d_X12_plan_44 (fun v6 _ => ?_)
        refine gm_bipush (v := 8) d_X12_plan_45 (by decide) ?_
        refine gm_icmp_ne (tgt := 53) d_X12_plan_47 (by decide) (fun h47 => ?_) (fun h47 => ?_)
        ·
          refine gm_aload_n d_X12_plan_53 rfl 0 rfl ?_
          refine gm_getR F_12_s gw_890 d_X12_plan_54 (fun v7 _ => ?_)
          refine gm_bipush (v := 78) d_X12_plan_57 (by decide) ?_
          refine gm_aload_n d_X12_plan_59 rfl 0 rfl ?_
          refine gm_getR F_12_s gw_890 d_X12_plan_60 (fun v8 _ => ?_)
          refine gm_bipush (v := 29) d_X12_plan_63 (by decide) ?_
          refine gm_iald d_X12_plan_65 (fun v9 _ => ?_)
          refine gm_iadd d_X12_plan_66 ?_
          refine gm_iload_n d_X12_plan_67 rfl 1 rfl ?_
          refine gm_iast d_X12_plan_68 (fun m10 _ => ?_)
          refine gm_aload_n d_X12_plan_69 rfl 0 rfl ?_
          refine gm_getR F_12_s gw_890 d_X12_plan_70 (fun v11 _ => ?_)
          refine gm_bipush (v := 86) d_X12_plan_73 (by decide) ?_
          refine gm_aload_n d_X12_plan_75 rfl 0 rfl ?_
          refine gm_getR F_12_s gw_890 d_X12_plan_76 (fun v12 _ => ?_)
          refine gm_bipush (v := 29) d_X12_plan_79 (by decide) ?_
          refine gm_iald d_X12_plan_81 (fun v13 _ => ?_)
          refine gm_iadd d_X12_plan_82 ?_
          refine gm_iload_n d_X12_plan_83 rfl 2 rfl ?_
          refine gm_iast d_X12_plan_84 (fun m14 _ => ?_)
          refine gm_aload_n d_X12_plan_85 rfl 0 rfl ?_
          refine gm_getR F_12_s gw_890 d_X12_plan_86 (fun v15 _ => ?_)
          refine gm_bipush (v := 29) d_X12_plan_89 (by decide) ?_
          refine gm_dup2 d_X12_plan_91 rfl rfl ?_
          refine gm_iald d_X12_plan_92 (fun v16 _ => ?_)
          refine gm_iconst (v := 1) d_X12_plan_93 (by decide) ?_
          refine gm_iadd d_X12_plan_94 ?_
          refine gm_iast d_X12_plan_95 (fun m17 _ => ?_)
          refine gm_aload_n d_X12_plan_96 rfl 0 rfl ?_
          refine gm_getR F_12_s gw_890 d_X12_plan_97 (fun v18 _ => ?_)
          refine gm_bipush (v := 29) d_X12_plan_100 (by decide) ?_
          refine gm_iald d_X12_plan_102 (fun v19 _ => ?_)
          exact gm_iret rfl d_X12_plan_103 (Nat.le_of_ble_eq_true rfl) (Nat.le_of_ble_eq_true rfl) (fun h => h)
        ·
          refine gm_bipush (v := -4) d_X12_plan_50 (by decide) ?_
          exact gm_iret rfl d_X12_plan_52 (Nat.le_of_ble_eq_true rfl) (Nat.le_of_ble_eq_true rfl) (fun h => h)
      ·
        refine gm_if_le (tgt := 38) d_X12_plan_25 (by decide) (fun h25 => ?_) (fun h25 => ?_)
        ·
          exact hj4 m1
        ·
          refine gm_aload_n d_X12_plan_28 rfl 0 rfl ?_
          refine gm_iload_n d_X12_plan_29 rfl 2 rfl ?_
          refine gm_grd (fun g30 => ?_)
          refine gm_callV (k0 := 12) [.int a2] (c_X12_isChild a0 a2 m1) g30 rfl B_X12_isChild gw_1047 gs_40 rfl rfl rfl d_X12_plan_30 (gm_kI (fun x21 m20 => ?_))
          refine gm_if_ne (tgt := 38) d_X12_plan_33 (by decide) (fun h33 => ?_) (fun h33 => ?_)
          ·
            exact hj4 m20
          ·
            refine gm_iconst (v := -1) d_X12_plan_36 (by decide) ?_
            exact gm_iret rfl d_X12_plan_37 (Nat.le_of_ble_eq_true rfl) (Nat.le_of_ble_eq_true rfl) (fun h => h)
  ·
    refine gm_aload_n d_X12_plan_5 rfl 0 rfl ?_
    refine gm_getR F_12_s gw_890 d_X12_plan_6 (fun v22 _ => ?_)
    refine gm_bipush (v := 29) d_X12_plan_9 (by decide) ?_
    refine gm_iconst (v := 0) d_X12_plan_11 (by decide) ?_
    refine gm_iast d_X12_plan_12 (fun m23 _ => ?_)
    refine gm_iconst (v := 0) d_X12_plan_13 (by decide) ?_
    exact gm_iret rfl d_X12_plan_14 (Nat.le_of_ble_eq_true rfl) (Nat.le_of_ble_eq_true rfl) (fun h => h)
theorem d_X12_row_0 : decode prog_14_method_34_code 0 = .ok (.aload_n 0, 1) := ge_aload_n_0 (by decide +kernel)
theorem d_X12_row_1 : decode prog_14_method_34_code 1 = .ok (.iload_n 1, 1) := ge_iload_n_1 (by decide +kernel)
theorem d_X12_row_2 : decode prog_14_method_34_code 2 = .ok (.invokevirtual 154, 3) := ge_invokevirtual (by decide +kernel)
theorem d_X12_row_5 : decode prog_14_method_34_code 5 = .ok (.ifCond .eq 12, 3) := ge_ifCond_eq (by decide +kernel)
theorem d_X12_row_8 : decode prog_14_method_34_code 8 = .ok (.iload_n 2, 1) := ge_iload_n_2 (by decide +kernel)
theorem d_X12_row_9 : decode prog_14_method_34_code 9 = .ok (.iconst 0, 1) := ge_iconst_0 (by decide +kernel)
theorem d_X12_row_10 : decode prog_14_method_34_code 10 = .ok (.iconst 3, 1) := ge_iconst_3 (by decide +kernel)
theorem d_X12_row_11 : decode prog_14_method_34_code 11 = .ok (.invokestatic 44, 3) := ge_invokestatic (by decide +kernel)
theorem d_X12_row_14 : decode prog_14_method_34_code 14 = .ok (.ifCond .ne 5, 3) := ge_ifCond_ne (by decide +kernel)
theorem d_X12_row_17 : decode prog_14_method_34_code 17 = .ok (.iconst (-1), 1) := ge_iconst_m1_ (by decide +kernel)
theorem d_X12_row_18 : decode prog_14_method_34_code 18 = .ok (.ireturn, 1) := ge_ireturn (by decide +kernel)
theorem d_X12_row_19 : decode prog_14_method_34_code 19 = .ok (.iload_n 3, 1) := ge_iload_n_3 (by decide +kernel)
theorem d_X12_row_20 : decode prog_14_method_34_code 20 = .ok (.iconst 0, 1) := ge_iconst_0 (by decide +kernel)
theorem d_X12_row_21 : decode prog_14_method_34_code 21 = .ok (.bipush 9, 2) := ge_bipush (by decide +kernel)
theorem d_X12_row_23 : decode prog_14_method_34_code 23 = .ok (.invokestatic 44, 3) := ge_invokestatic (by decide +kernel)
theorem d_X12_row_26 : decode prog_14_method_34_code 26 = .ok (.ifCond .ne 6, 3) := ge_ifCond_ne (by decide +kernel)
theorem d_X12_row_29 : decode prog_14_method_34_code 29 = .ok (.bipush (-2), 2) := ge_bipush (by decide +kernel)
theorem d_X12_row_31 : decode prog_14_method_34_code 31 = .ok (.ireturn, 1) := ge_ireturn (by decide +kernel)
theorem d_X12_row_32 : decode prog_14_method_34_code 32 = .ok (.aload_n 0, 1) := ge_aload_n_0 (by decide +kernel)
theorem d_X12_row_33 : decode prog_14_method_34_code 33 = .ok (.getfield 9, 3) := ge_getfield (by decide +kernel)
theorem d_X12_row_36 : decode prog_14_method_34_code 36 = .ok (.bipush 33, 2) := ge_bipush (by decide +kernel)
theorem d_X12_row_38 : decode prog_14_method_34_code 38 = .ok (.iload_n 1, 1) := ge_iload_n_1 (by decide +kernel)
theorem d_X12_row_39 : decode prog_14_method_34_code 39 = .ok (.iadd, 1) := ge_iadd (by decide +kernel)
theorem d_X12_row_40 : decode prog_14_method_34_code 40 = .ok (.iaload, 1) := ge_iaload (by decide +kernel)
theorem d_X12_row_41 : decode prog_14_method_34_code 41 = .ok (.bipush 6, 2) := ge_bipush (by decide +kernel)
theorem d_X12_row_43 : decode prog_14_method_34_code 43 = .ok (.if_icmp .eq 6, 3) := ge_if_icmp_eq (by decide +kernel)
theorem d_X12_row_46 : decode prog_14_method_34_code 46 = .ok (.bipush (-3), 2) := ge_bipush (by decide +kernel)
theorem d_X12_row_48 : decode prog_14_method_34_code 48 = .ok (.ireturn, 1) := ge_ireturn (by decide +kernel)
theorem d_X12_row_49 : decode prog_14_method_34_code 49 = .ok (.aload_n 0, 1) := ge_aload_n_0 (by decide +kernel)
theorem d_X12_row_50 : decode prog_14_method_34_code 50 = .ok (.getfield 9, 3) := ge_getfield (by decide +kernel)
theorem d_X12_row_53 : decode prog_14_method_34_code 53 = .ok (.bipush 43, 2) := ge_bipush (by decide +kernel)
theorem d_X12_row_55 : decode prog_14_method_34_code 55 = .ok (.iconst 4, 1) := ge_iconst_4 (by decide +kernel)
theorem d_X12_row_56 : decode prog_14_method_34_code 56 = .ok (.iload_n 1, 1) := ge_iload_n_1 (by decide +kernel)
theorem d_X12_row_57 : decode prog_14_method_34_code 57 = .ok (.imul, 1) := ge_imul (by decide +kernel)
theorem d_X12_row_58 : decode prog_14_method_34_code 58 = .ok (.iadd, 1) := ge_iadd (by decide +kernel)
theorem d_X12_row_59 : decode prog_14_method_34_code 59 = .ok (.iload_n 2, 1) := ge_iload_n_2 (by decide +kernel)
theorem d_X12_row_60 : decode prog_14_method_34_code 60 = .ok (.iadd, 1) := ge_iadd (by decide +kernel)
theorem d_X12_row_61 : decode prog_14_method_34_code 61 = .ok (.iaload, 1) := ge_iaload (by decide +kernel)
theorem d_X12_row_62 : decode prog_14_method_34_code 62 = .ok (.istore 4, 2) := ge_istore (by decide +kernel)
theorem d_X12_row_64 : decode prog_14_method_34_code 64 = .ok (.aload_n 0, 1) := ge_aload_n_0 (by decide +kernel)
theorem d_X12_row_65 : decode prog_14_method_34_code 65 = .ok (.getfield 9, 3) := ge_getfield (by decide +kernel)
theorem d_X12_row_68 : decode prog_14_method_34_code 68 = .ok (.bipush 43, 2) := ge_bipush (by decide +kernel)
theorem d_X12_row_70 : decode prog_14_method_34_code 70 = .ok (.iconst 4, 1) := ge_iconst_4 (by decide +kernel)
theorem d_X12_row_71 : decode prog_14_method_34_code 71 = .ok (.iload_n 1, 1) := ge_iload_n_1 (by decide +kernel)
theorem d_X12_row_72 : decode prog_14_method_34_code 72 = .ok (.imul, 1) := ge_imul (by decide +kernel)
theorem d_X12_row_73 : decode prog_14_method_34_code 73 = .ok (.iadd, 1) := ge_iadd (by decide +kernel)
theorem d_X12_row_74 : decode prog_14_method_34_code 74 = .ok (.iload_n 2, 1) := ge_iload_n_2 (by decide +kernel)
theorem d_X12_row_75 : decode prog_14_method_34_code 75 = .ok (.iadd, 1) := ge_iadd (by decide +kernel)
theorem d_X12_row_76 : decode prog_14_method_34_code 76 = .ok (.iload_n 3, 1) := ge_iload_n_3 (by decide +kernel)
theorem d_X12_row_77 : decode prog_14_method_34_code 77 = .ok (.iastore, 1) := ge_iastore (by decide +kernel)
theorem d_X12_row_78 : decode prog_14_method_34_code 78 = .ok (.iload 4, 2) := ge_iload (by decide +kernel)
theorem d_X12_row_80 : decode prog_14_method_34_code 80 = .ok (.ireturn, 1) := ge_ireturn (by decide +kernel)
def f_X12_row (a0 : Nat) (a1 : Int32) (a2 : Int32) (a3 : Int32) (μ : gm_M) : Option (Option Value × gm_M) := if gm_tag μ a0 = 17 then gm_bI (f_X12_isChild a0 a1 μ) (fun x2 m1 => if x2 = 0 then some (some (.int (-1 : Int32)), m1) else gm_bI (f_X12_in a2 (0 : Int32) (3 : Int32) m1) (fun x4 m3 => if x4 ≠ 0 then gm_bI (f_X12_in a3 (0 : Int32) (9 : Int32) m3) (fun x6 m5 => if x6 ≠ 0 then gm_gR m5 [17] a0 1 (fun v7 => gm_aI m5 v7 ((33 : Int32) + a1) (fun v8 => if v8 = (6 : Int32) then gm_gR m5 [17] a0 1 (fun v9 => gm_aI m5 v9 (((43 : Int32) + ((4 : Int32) * a1)) + a2) (fun v10 => gm_gR m5 [17] a0 1 (fun v11 => gm_sI m5 v11 (((43 : Int32) + ((4 : Int32) * a1)) + a2) a3 (fun m12 => some (some (.int v10), m12))))) else some (some (.int (-3 : Int32)), m5))) else some (some (.int (-2 : Int32)), m5)) else some (some (.int (-1 : Int32)), m3))) else none
set_option maxHeartbeats 4000000 in
theorem c_X12_row (a0 : Nat) (a1 : Int32) (a2 : Int32) (a3 : Int32) (μ : gm_M) : gm_Call ({ cls := "GumBubbleModel", name := "row", desc := "(III)I" } : Jvm.MethodName) prog_14_method_34_code 5 (some .int) 2 0 0 [.ref a0, .int a1, .int a2, .int a3] μ (f_X12_row a0 a1 a2 a3 μ) := by
  refine gm_start PN_12 (Nat.le_of_ble_eq_true rfl) (fun res μe => ?_)
  unfold f_X12_row
  show gm_A "GumBubbleModel" (gm_nm "row") _ _ _ _ _ _ _ _ _ 0 [(0, .ref a0), (1, .int a1), (2, .int a2), (3, .int a3)] [] _ _
  refine gm_aload_n d_X12_row_0 rfl 0 rfl ?_
  refine gm_iload_n d_X12_row_1 rfl 1 rfl ?_
  refine gm_grd (fun g2 => ?_)
  refine gm_callV (k0 := 12) [.int a1] (c_X12_isChild a0 a1 μ) g2 rfl B_X12_isChild gw_1047 gs_40 rfl rfl rfl d_X12_row_2 (gm_kI (fun x2 m1 => ?_))
  refine gm_if_eq (tgt := 17) d_X12_row_5 (by decide) (fun h5 => ?_) (fun h5 => ?_)
  ·
    refine gm_iconst (v := -1) d_X12_row_17 (by decide) ?_
    exact gm_iret rfl d_X12_row_18 (Nat.le_of_ble_eq_true rfl) (Nat.le_of_ble_eq_true rfl) (fun h => h)
  ·
    refine gm_iload_n d_X12_row_8 rfl 2 rfl ?_
    refine gm_iconst (v := 0) d_X12_row_9 (by decide) ?_
    refine gm_iconst (v := 3) d_X12_row_10 (by decide) ?_
    refine gm_callS [.int a2, .int (0 : Int32), .int (3 : Int32)] (c_X12_in a2 (0 : Int32) (3 : Int32) m1) B_X12_in gw_964 rfl rfl rfl d_X12_row_11 (gm_kI (fun x4 m3 => ?_))
    refine gm_if_ne (tgt := 19) d_X12_row_14 (by decide) (fun h14 => ?_) (fun h14 => ?_)
    ·
      refine gm_iload_n d_X12_row_19 rfl 3 rfl ?_
      refine gm_iconst (v := 0) d_X12_row_20 (by decide) ?_
      refine gm_bipush (v := 9) d_X12_row_21 (by decide) ?_
      refine gm_callS [.int a3, .int (0 : Int32), .int (9 : Int32)] (c_X12_in a3 (0 : Int32) (9 : Int32) m3) B_X12_in gw_964 rfl rfl rfl d_X12_row_23 (gm_kI (fun x6 m5 => ?_))
      refine gm_if_ne (tgt := 32) d_X12_row_26 (by decide) (fun h26 => ?_) (fun h26 => ?_)
      ·
        refine gm_aload_n d_X12_row_32 rfl 0 rfl ?_
        refine gm_getR F_12_s gw_890 d_X12_row_33 (fun v7 _ => ?_)
        refine gm_bipush (v := 33) d_X12_row_36 (by decide) ?_
        refine gm_iload_n d_X12_row_38 rfl 1 rfl ?_
        refine gm_iadd d_X12_row_39 ?_
        refine gm_iald d_X12_row_40 (fun v8 _ => ?_)
        refine gm_bipush (v := 6) d_X12_row_41 (by decide) ?_
        refine gm_icmp_eq (tgt := 49) d_X12_row_43 (by decide) (fun h43 => ?_) (fun h43 => ?_)
        ·
          refine gm_aload_n d_X12_row_49 rfl 0 rfl ?_
          refine gm_getR F_12_s gw_890 d_X12_row_50 (fun v9 _ => ?_)
          refine gm_bipush (v := 43) d_X12_row_53 (by decide) ?_
          refine gm_iconst (v := 4) d_X12_row_55 (by decide) ?_
          refine gm_iload_n d_X12_row_56 rfl 1 rfl ?_
          refine gm_imul d_X12_row_57 ?_
          refine gm_iadd d_X12_row_58 ?_
          refine gm_iload_n d_X12_row_59 rfl 2 rfl ?_
          refine gm_iadd d_X12_row_60 ?_
          refine gm_iald d_X12_row_61 (fun v10 _ => ?_)
          refine gm_istore (L' := [(4, .int v10), (0, .ref a0), (1, .int a1), (2, .int a2), (3, .int a3)]) d_X12_row_62 (Nat.le_of_ble_eq_true rfl) rfl ?_
          refine gm_aload_n d_X12_row_64 rfl 1 rfl ?_
          refine gm_getR F_12_s gw_890 d_X12_row_65 (fun v11 _ => ?_)
          refine gm_bipush (v := 43) d_X12_row_68 (by decide) ?_
          refine gm_iconst (v := 4) d_X12_row_70 (by decide) ?_
          refine gm_iload_n d_X12_row_71 rfl 2 rfl ?_
          refine gm_imul d_X12_row_72 ?_
          refine gm_iadd d_X12_row_73 ?_
          refine gm_iload_n d_X12_row_74 rfl 3 rfl ?_
          refine gm_iadd d_X12_row_75 ?_
          refine gm_iload_n d_X12_row_76 rfl 4 rfl ?_
          refine gm_iast d_X12_row_77 (fun m12 _ => ?_)
          refine gm_iload d_X12_row_78 0 rfl ?_
          exact gm_iret rfl d_X12_row_80 (Nat.le_of_ble_eq_true rfl) (Nat.le_of_ble_eq_true rfl) (fun h => h)
        ·
          refine gm_bipush (v := -3) d_X12_row_46 (by decide) ?_
          exact gm_iret rfl d_X12_row_48 (Nat.le_of_ble_eq_true rfl) (Nat.le_of_ble_eq_true rfl) (fun h => h)
      ·
        refine gm_bipush (v := -2) d_X12_row_29 (by decide) ?_
        exact gm_iret rfl d_X12_row_31 (Nat.le_of_ble_eq_true rfl) (Nat.le_of_ble_eq_true rfl) (fun h => h)
    ·
      refine gm_iconst (v := -1) d_X12_row_17 (by decide) ?_
      exact gm_iret rfl d_X12_row_18 (Nat.le_of_ble_eq_true rfl) (Nat.le_of_ble_eq_true rfl) (fun h => h)
theorem d_X12_see_0 : decode prog_14_method_66_code 0 = .ok (.iload_n 1, 1) := ge_iload_n_1 (by decide +kernel)
theorem d_X12_see_1 : decode prog_14_method_66_code 1 = .ok (.iconst (-1), 1) := ge_iconst_m1_ (by decide +kernel)
theorem d_X12_see_2 : decode prog_14_method_66_code 2 = .ok (.if_icmp .ne 13, 3) := ge_if_icmp_ne (by decide +kernel)
theorem d_X12_see_5 : decode prog_14_method_66_code 5 = .ok (.aload_n 0, 1) := ge_aload_n_0 (by decide +kernel)
theorem d_X12_see_6 : decode prog_14_method_66_code 6 = .ok (.getfield 9, 3) := ge_getfield (by decide +kernel)
theorem d_X12_see_9 : decode prog_14_method_66_code 9 = .ok (.bipush 28, 2) := ge_bipush (by decide +kernel)
theorem d_X12_see_11 : decode prog_14_method_66_code 11 = .ok (.iconst 0, 1) := ge_iconst_0 (by decide +kernel)
theorem d_X12_see_12 : decode prog_14_method_66_code 12 = .ok (.iastore, 1) := ge_iastore (by decide +kernel)
theorem d_X12_see_13 : decode prog_14_method_66_code 13 = .ok (.iconst 0, 1) := ge_iconst_0 (by decide +kernel)
theorem d_X12_see_14 : decode prog_14_method_66_code 14 = .ok (.ireturn, 1) := ge_ireturn (by decide +kernel)
theorem d_X12_see_15 : decode prog_14_method_66_code 15 = .ok (.aload_n 0, 1) := ge_aload_n_0 (by decide +kernel)
theorem d_X12_see_16 : decode prog_14_method_66_code 16 = .ok (.iload_n 1, 1) := ge_iload_n_1 (by decide +kernel)
theorem d_X12_see_17 : decode prog_14_method_66_code 17 = .ok (.invokevirtual 154, 3) := ge_invokevirtual (by decide +kernel)
theorem d_X12_see_20 : decode prog_14_method_66_code 20 = .ok (.ifCond .ne 5, 3) := ge_ifCond_ne (by decide +kernel)
theorem d_X12_see_23 : decode prog_14_method_66_code 23 = .ok (.iconst (-1), 1) := ge_iconst_m1_ (by decide +kernel)
theorem d_X12_see_24 : decode prog_14_method_66_code 24 = .ok (.ireturn, 1) := ge_ireturn (by decide +kernel)
theorem d_X12_see_25 : decode prog_14_method_66_code 25 = .ok (.iload_n 2, 1) := ge_iload_n_2 (by decide +kernel)
theorem d_X12_see_26 : decode prog_14_method_66_code 26 = .ok (.iconst 0, 1) := ge_iconst_0 (by decide +kernel)
theorem d_X12_see_27 : decode prog_14_method_66_code 27 = .ok (.sipush 999, 3) := ge_sipush (by decide +kernel)
theorem d_X12_see_30 : decode prog_14_method_66_code 30 = .ok (.invokestatic 44, 3) := ge_invokestatic (by decide +kernel)
theorem d_X12_see_33 : decode prog_14_method_66_code 33 = .ok (.ifCond .eq 13, 3) := ge_ifCond_eq (by decide +kernel)
theorem d_X12_see_36 : decode prog_14_method_66_code 36 = .ok (.iload_n 3, 1) := ge_iload_n_3 (by decide +kernel)
theorem d_X12_see_37 : decode prog_14_method_66_code 37 = .ok (.iconst 0, 1) := ge_iconst_0 (by decide +kernel)
theorem d_X12_see_38 : decode prog_14_method_66_code 38 = .ok (.bipush 20, 2) := ge_bipush (by decide +kernel)
theorem d_X12_see_40 : decode prog_14_method_66_code 40 = .ok (.invokestatic 44, 3) := ge_invokestatic (by decide +kernel)
theorem d_X12_see_43 : decode prog_14_method_66_code 43 = .ok (.ifCond .ne 6, 3) := ge_ifCond_ne (by decide +kernel)
theorem d_X12_see_46 : decode prog_14_method_66_code 46 = .ok (.bipush (-2), 2) := ge_bipush (by decide +kernel)
theorem d_X12_see_48 : decode prog_14_method_66_code 48 = .ok (.ireturn, 1) := ge_ireturn (by decide +kernel)
theorem d_X12_see_49 : decode prog_14_method_66_code 49 = .ok (.aload_n 0, 1) := ge_aload_n_0 (by decide +kernel)
theorem d_X12_see_50 : decode prog_14_method_66_code 50 = .ok (.getfield 9, 3) := ge_getfield (by decide +kernel)
theorem d_X12_see_53 : decode prog_14_method_66_code 53 = .ok (.bipush 28, 2) := ge_bipush (by decide +kernel)
theorem d_X12_see_55 : decode prog_14_method_66_code 55 = .ok (.iaload, 1) := ge_iaload (by decide +kernel)
theorem d_X12_see_56 : decode prog_14_method_66_code 56 = .ok (.iconst 5, 1) := ge_iconst_5 (by decide +kernel)
theorem d_X12_see_57 : decode prog_14_method_66_code 57 = .ok (.if_icmp .ne 6, 3) := ge_if_icmp_ne (by decide +kernel)
theorem d_X12_see_60 : decode prog_14_method_66_code 60 = .ok (.bipush (-4), 2) := ge_bipush (by decide +kernel)
theorem d_X12_see_62 : decode prog_14_method_66_code 62 = .ok (.ireturn, 1) := ge_ireturn (by decide +kernel)
theorem d_X12_see_63 : decode prog_14_method_66_code 63 = .ok (.aload_n 0, 1) := ge_aload_n_0 (by decide +kernel)
theorem d_X12_see_64 : decode prog_14_method_66_code 64 = .ok (.getfield 9, 3) := ge_getfield (by decide +kernel)
theorem d_X12_see_67 : decode prog_14_method_66_code 67 = .ok (.bipush 63, 2) := ge_bipush (by decide +kernel)
theorem d_X12_see_69 : decode prog_14_method_66_code 69 = .ok (.aload_n 0, 1) := ge_aload_n_0 (by decide +kernel)
theorem d_X12_see_70 : decode prog_14_method_66_code 70 = .ok (.getfield 9, 3) := ge_getfield (by decide +kernel)
theorem d_X12_see_73 : decode prog_14_method_66_code 73 = .ok (.bipush 28, 2) := ge_bipush (by decide +kernel)
theorem d_X12_see_75 : decode prog_14_method_66_code 75 = .ok (.iaload, 1) := ge_iaload (by decide +kernel)
theorem d_X12_see_76 : decode prog_14_method_66_code 76 = .ok (.iadd, 1) := ge_iadd (by decide +kernel)
theorem d_X12_see_77 : decode prog_14_method_66_code 77 = .ok (.iload_n 1, 1) := ge_iload_n_1 (by decide +kernel)
theorem d_X12_see_78 : decode prog_14_method_66_code 78 = .ok (.iastore, 1) := ge_iastore (by decide +kernel)
theorem d_X12_see_79 : decode prog_14_method_66_code 79 = .ok (.aload_n 0, 1) := ge_aload_n_0 (by decide +kernel)
theorem d_X12_see_80 : decode prog_14_method_66_code 80 = .ok (.getfield 9, 3) := ge_getfield (by decide +kernel)
theorem d_X12_see_83 : decode prog_14_method_66_code 83 = .ok (.bipush 68, 2) := ge_bipush (by decide +kernel)
theorem d_X12_see_85 : decode prog_14_method_66_code 85 = .ok (.aload_n 0, 1) := ge_aload_n_0 (by decide +kernel)
theorem d_X12_see_86 : decode prog_14_method_66_code 86 = .ok (.getfield 9, 3) := ge_getfield (by decide +kernel)
theorem d_X12_see_89 : decode prog_14_method_66_code 89 = .ok (.bipush 28, 2) := ge_bipush (by decide +kernel)
theorem d_X12_see_91 : decode prog_14_method_66_code 91 = .ok (.iaload, 1) := ge_iaload (by decide +kernel)
theorem d_X12_see_92 : decode prog_14_method_66_code 92 = .ok (.iadd, 1) := ge_iadd (by decide +kernel)
theorem d_X12_see_93 : decode prog_14_method_66_code 93 = .ok (.iload_n 2, 1) := ge_iload_n_2 (by decide +kernel)
theorem d_X12_see_94 : decode prog_14_method_66_code 94 = .ok (.iastore, 1) := ge_iastore (by decide +kernel)
theorem d_X12_see_95 : decode prog_14_method_66_code 95 = .ok (.aload_n 0, 1) := ge_aload_n_0 (by decide +kernel)
theorem d_X12_see_96 : decode prog_14_method_66_code 96 = .ok (.getfield 9, 3) := ge_getfield (by decide +kernel)
theorem d_X12_see_99 : decode prog_14_method_66_code 99 = .ok (.bipush 73, 2) := ge_bipush (by decide +kernel)
theorem d_X12_see_101 : decode prog_14_method_66_code 101 = .ok (.aload_n 0, 1) := ge_aload_n_0 (by decide +kernel)
theorem d_X12_see_102 : decode prog_14_method_66_code 102 = .ok (.getfield 9, 3) := ge_getfield (by decide +kernel)
theorem d_X12_see_105 : decode prog_14_method_66_code 105 = .ok (.bipush 28, 2) := ge_bipush (by decide +kernel)
theorem d_X12_see_107 : decode prog_14_method_66_code 107 = .ok (.iaload, 1) := ge_iaload (by decide +kernel)
theorem d_X12_see_108 : decode prog_14_method_66_code 108 = .ok (.iadd, 1) := ge_iadd (by decide +kernel)
theorem d_X12_see_109 : decode prog_14_method_66_code 109 = .ok (.iload_n 3, 1) := ge_iload_n_3 (by decide +kernel)
theorem d_X12_see_110 : decode prog_14_method_66_code 110 = .ok (.iastore, 1) := ge_iastore (by decide +kernel)
theorem d_X12_see_111 : decode prog_14_method_66_code 111 = .ok (.aload_n 0, 1) := ge_aload_n_0 (by decide +kernel)
theorem d_X12_see_112 : decode prog_14_method_66_code 112 = .ok (.getfield 9, 3) := ge_getfield (by decide +kernel)
theorem d_X12_see_115 : decode prog_14_method_66_code 115 = .ok (.bipush 28, 2) := ge_bipush (by decide +kernel)
theorem d_X12_see_117 : decode prog_14_method_66_code 117 = .ok (.dup2, 1) := ge_dup2 (by decide +kernel)
theorem d_X12_see_118 : decode prog_14_method_66_code 118 = .ok (.iaload, 1) := ge_iaload (by decide +kernel)
theorem d_X12_see_119 : decode prog_14_method_66_code 119 = .ok (.iconst 1, 1) := ge_iconst_1 (by decide +kernel)
theorem d_X12_see_120 : decode prog_14_method_66_code 120 = .ok (.iadd, 1) := ge_iadd (by decide +kernel)
theorem d_X12_see_121 : decode prog_14_method_66_code 121 = .ok (.iastore, 1) := ge_iastore (by decide +kernel)
theorem d_X12_see_122 : decode prog_14_method_66_code 122 = .ok (.aload_n 0, 1) := ge_aload_n_0 (by decide +kernel)
theorem d_X12_see_123 : decode prog_14_method_66_code 123 = .ok (.getfield 9, 3) := ge_getfield (by decide +kernel)
theorem d_X12_see_126 : decode prog_14_method_66_code 126 = .ok (.bipush 28, 2) := ge_bipush (by decide +kernel)
theorem d_X12_see_128 : decode prog_14_method_66_code 128 = .ok (.iaload, 1) := ge_iaload (by decide +kernel)
theorem d_X12_see_129 : decode prog_14_method_66_code 129 = .ok (.ireturn, 1) := ge_ireturn (by decide +kernel)
def f_X12_see (a0 : Nat) (a1 : Int32) (a2 : Int32) (a3 : Int32) (μ : gm_M) : Option (Option Value × gm_M) := if a1 ≠ (-1 : Int32) then if gm_tag μ a0 = 17 then gm_bI (f_X12_isChild a0 a1 μ) (fun x2 m1 => if x2 ≠ 0 then gm_bI (f_X12_in a2 (0 : Int32) (999 : Int32) m1) (fun x4 m3 => if x4 = 0 then some (some (.int (-2 : Int32)), m3) else gm_bI (f_X12_in a3 (0 : Int32) (20 : Int32) m3) (fun x6 m5 => if x6 ≠ 0 then gm_gR m5 [17] a0 1 (fun v7 => gm_aI m5 v7 (28 : Int32) (fun v8 => if v8 ≠ (5 : Int32) then gm_gR m5 [17] a0 1 (fun v9 => gm_gR m5 [17] a0 1 (fun v10 => gm_aI m5 v10 (28 : Int32) (fun v11 => gm_sI m5 v9 ((63 : Int32) + v11) a1 (fun m12 => gm_gR m12 [17] a0 1 (fun v13 => gm_gR m12 [17] a0 1 (fun v14 => gm_aI m12 v14 (28 : Int32) (fun v15 => gm_sI m12 v13 ((68 : Int32) + v15) a2 (fun m16 => gm_gR m16 [17] a0 1 (fun v17 => gm_gR m16 [17] a0 1 (fun v18 => gm_aI m16 v18 (28 : Int32) (fun v19 => gm_sI m16 v17 ((73 : Int32) + v19) a3 (fun m20 => gm_gR m20 [17] a0 1 (fun v21 => gm_aI m20 v21 (28 : Int32) (fun v22 => gm_sI m20 v21 (28 : Int32) (v22 + (1 : Int32)) (fun m23 => gm_gR m23 [17] a0 1 (fun v24 => gm_aI m23 v24 (28 : Int32) (fun v25 => some (some (.int v25), m23)))))))))))))))))) else some (some (.int (-4 : Int32)), m5))) else some (some (.int (-2 : Int32)), m5))) else some (some (.int (-1 : Int32)), m1)) else none else gm_gR μ [17] a0 1 (fun v26 => gm_sI μ v26 (28 : Int32) (0 : Int32) (fun m27 => some (some (.int (0 : Int32)), m27)))
set_option maxHeartbeats 4000000 in
theorem c_X12_see (a0 : Nat) (a1 : Int32) (a2 : Int32) (a3 : Int32) (μ : gm_M) : gm_Call ({ cls := "GumBubbleModel", name := "see", desc := "(III)I" } : Jvm.MethodName) prog_14_method_66_code 4 (some .int) 2 0 0 [.ref a0, .int a1, .int a2, .int a3] μ (f_X12_see a0 a1 a2 a3 μ) := by
  refine gm_start PN_12 (Nat.le_of_ble_eq_true rfl) (fun res μe => ?_)
  unfold f_X12_see
  show gm_A "GumBubbleModel" (gm_nm "see") _ _ _ _ _ _ _ _ _ 0 [(0, .ref a0), (1, .int a1), (2, .int a2), (3, .int a3)] [] _ _
  refine gm_iload_n d_X12_see_0 rfl 1 rfl ?_
  refine gm_iconst (v := -1) d_X12_see_1 (by decide) ?_
  refine gm_icmp_ne (tgt := 15) d_X12_see_2 (by decide) (fun h2 => ?_) (fun h2 => ?_)
  ·
    refine gm_aload_n d_X12_see_15 rfl 0 rfl ?_
    refine gm_iload_n d_X12_see_16 rfl 1 rfl ?_
    refine gm_grd (fun g17 => ?_)
    refine gm_callV (k0 := 12) [.int a1] (c_X12_isChild a0 a1 μ) g17 rfl B_X12_isChild gw_1047 gs_40 rfl rfl rfl d_X12_see_17 (gm_kI (fun x2 m1 => ?_))
    refine gm_if_ne (tgt := 25) d_X12_see_20 (by decide) (fun h20 => ?_) (fun h20 => ?_)
    ·
      refine gm_iload_n d_X12_see_25 rfl 2 rfl ?_
      refine gm_iconst (v := 0) d_X12_see_26 (by decide) ?_
      refine gm_sipush (v := 999) d_X12_see_27 (by decide) ?_
      refine gm_callS [.int a2, .int (0 : Int32), .int (999 : Int32)] (c_X12_in a2 (0 : Int32) (999 : Int32) m1) B_X12_in gw_964 rfl rfl rfl d_X12_see_30 (gm_kI (fun x4 m3 => ?_))
      refine gm_if_eq (tgt := 46) d_X12_see_33 (by decide) (fun h33 => ?_) (fun h33 => ?_)
      ·
        refine gm_bipush (v := -2) d_X12_see_46 (by decide) ?_
        exact gm_iret rfl d_X12_see_48 (Nat.le_of_ble_eq_true rfl) (Nat.le_of_ble_eq_true rfl) (fun h => h)
      ·
        refine gm_iload_n d_X12_see_36 rfl 3 rfl ?_
        refine gm_iconst (v := 0) d_X12_see_37 (by decide) ?_
        refine gm_bipush (v := 20) d_X12_see_38 (by decide) ?_
        refine gm_callS [.int a3, .int (0 : Int32), .int (20 : Int32)] (c_X12_in a3 (0 : Int32) (20 : Int32) m3) B_X12_in gw_964 rfl rfl rfl d_X12_see_40 (gm_kI (fun x6 m5 => ?_))
        refine gm_if_ne (tgt := 49) d_X12_see_43 (by decide) (fun h43 => ?_) (fun h43 => ?_)
        ·
          refine gm_aload_n d_X12_see_49 rfl 0 rfl ?_
          refine gm_getR F_12_s gw_890 d_X12_see_50 (fun v7 _ => ?_)
          refine gm_bipush (v := 28) d_X12_see_53 (by decide) ?_
          refine gm_iald d_X12_see_55 (fun v8 _ => ?_)
          refine gm_iconst (v := 5) d_X12_see_56 (by decide) ?_
          refine gm_icmp_ne (tgt := 63) d_X12_see_57 (by decide) (fun h57 => ?_) (fun h57 => ?_)
          ·
            refine gm_aload_n d_X12_see_63 rfl 0 rfl ?_
            refine gm_getR F_12_s gw_890 d_X12_see_64 (fun v9 _ => ?_)
            refine gm_bipush (v := 63) d_X12_see_67 (by decide) ?_
            refine gm_aload_n d_X12_see_69 rfl 0 rfl ?_
            refine gm_getR F_12_s gw_890 d_X12_see_70 (fun v10 _ => ?_)
            refine gm_bipush (v := 28) d_X12_see_73 (by decide) ?_
            refine gm_iald d_X12_see_75 (fun v11 _ => ?_)
            refine gm_iadd d_X12_see_76 ?_
            refine gm_iload_n d_X12_see_77 rfl 1 rfl ?_
            refine gm_iast d_X12_see_78 (fun m12 _ => ?_)
            refine gm_aload_n d_X12_see_79 rfl 0 rfl ?_
            refine gm_getR F_12_s gw_890 d_X12_see_80 (fun v13 _ => ?_)
            refine gm_bipush (v := 68) d_X12_see_83 (by decide) ?_
            refine gm_aload_n d_X12_see_85 rfl 0 rfl ?_
            refine gm_getR F_12_s gw_890 d_X12_see_86 (fun v14 _ => ?_)
            refine gm_bipush (v := 28) d_X12_see_89 (by decide) ?_
            refine gm_iald d_X12_see_91 (fun v15 _ => ?_)
            refine gm_iadd d_X12_see_92 ?_
            refine gm_iload_n d_X12_see_93 rfl 2 rfl ?_
            refine gm_iast d_X12_see_94 (fun m16 _ => ?_)
            refine gm_aload_n d_X12_see_95 rfl 0 rfl ?_
            refine gm_getR F_12_s gw_890 d_X12_see_96 (fun v17 _ => ?_)
            refine gm_bipush (v := 73) d_X12_see_99 (by decide) ?_
            refine gm_aload_n d_X12_see_101 rfl 0 rfl ?_
            refine gm_getR F_12_s gw_890 d_X12_see_102 (fun v18 _ => ?_)
            refine gm_bipush (v := 28) d_X12_see_105 (by decide) ?_
            refine gm_iald d_X12_see_107 (fun v19 _ => ?_)
            refine gm_iadd d_X12_see_108 ?_
            refine gm_iload_n d_X12_see_109 rfl 3 rfl ?_
            refine gm_iast d_X12_see_110 (fun m20 _ => ?_)
            refine gm_aload_n d_X12_see_111 rfl 0 rfl ?_
            refine gm_getR F_12_s gw_890 d_X12_see_112 (fun v21 _ => ?_)
            refine gm_bipush (v := 28) d_X12_see_115 (by decide) ?_
            refine gm_dup2 d_X12_see_117 rfl rfl ?_
            refine gm_iald d_X12_see_118 (fun v22 _ => ?_)
            refine gm_iconst (v := 1) d_X12_see_119 (by decide) ?_
            refine gm_iadd d_X12_see_120 ?_
            refine gm_iast d_X12_see_121 (fun m23 _ => ?_)
            refine gm_aload_n d_X12_see_122 rfl 0 rfl ?_
            refine gm_getR F_12_s gw_890 d_X12_see_123 (fun v24 _ => ?_)
            refine gm_bipush (v := 28) d_X12_see_126 (by decide) ?_
            refine gm_iald d_X12_see_128 (fun v25 _ => ?_)
            exact gm_iret rfl d_X12_see_129 (Nat.le_of_ble_eq_true rfl) (Nat.le_of_ble_eq_true rfl) (fun h => h)
          ·
            refine gm_bipush (v := -4) d_X12_see_60 (by decide) ?_
            exact gm_iret rfl d_X12_see_62 (Nat.le_of_ble_eq_true rfl) (Nat.le_of_ble_eq_true rfl) (fun h => h)
        ·
          refine gm_bipush (v := -2) d_X12_see_46 (by decide) ?_
          exact gm_iret rfl d_X12_see_48 (Nat.le_of_ble_eq_true rfl) (Nat.le_of_ble_eq_true rfl) (fun h => h)
    ·
      refine gm_iconst (v := -1) d_X12_see_23 (by decide) ?_
      exact gm_iret rfl d_X12_see_24 (Nat.le_of_ble_eq_true rfl) (Nat.le_of_ble_eq_true rfl) (fun h => h)
  ·
    refine gm_aload_n d_X12_see_5 rfl 0 rfl ?_
    refine gm_getR F_12_s gw_890 d_X12_see_6 (fun v26 _ => ?_)
    refine gm_bipush (v := 28) d_X12_see_9 (by decide) ?_
    refine gm_iconst (v := 0) d_X12_see_11 (by decide) ?_
    refine gm_iast d_X12_see_12 (fun m27 _ => ?_)
    refine gm_iconst (v := 0) d_X12_see_13 (by decide) ?_
    exact gm_iret rfl d_X12_see_14 (Nat.le_of_ble_eq_true rfl) (Nat.le_of_ble_eq_true rfl) (fun h => h)
theorem d_X12_set_0 : decode prog_14_method_35_code 0 = .ok (.aload_n 0, 1) := ge_aload_n_0 (by decide +kernel)
theorem d_X12_set_1 : decode prog_14_method_35_code 1 = .ok (.iload_n 1, 1) := ge_iload_n_1 (by decide +kernel)
theorem d_X12_set_2 : decode prog_14_method_35_code 2 = .ok (.invokevirtual 154, 3) := ge_invokevirtual (by decide +kernel)
theorem d_X12_set_5 : decode prog_14_method_35_code 5 = .ok (.ifCond .eq 12, 3) := ge_ifCond_eq (by decide +kernel)
theorem d_X12_set_8 : decode prog_14_method_35_code 8 = .ok (.iload_n 2, 1) := ge_iload_n_2 (by decide +kernel)
theorem d_X12_set_9 : decode prog_14_method_35_code 9 = .ok (.iconst 0, 1) := ge_iconst_0 (by decide +kernel)
theorem d_X12_set_10 : decode prog_14_method_35_code 10 = .ok (.iconst 2, 1) := ge_iconst_2 (by decide +kernel)
theorem d_X12_set_11 : decode prog_14_method_35_code 11 = .ok (.invokestatic 44, 3) := ge_invokestatic (by decide +kernel)
theorem d_X12_set_14 : decode prog_14_method_35_code 14 = .ok (.ifCond .ne 5, 3) := ge_ifCond_ne (by decide +kernel)
theorem d_X12_set_17 : decode prog_14_method_35_code 17 = .ok (.iconst (-1), 1) := ge_iconst_m1_ (by decide +kernel)
theorem d_X12_set_18 : decode prog_14_method_35_code 18 = .ok (.ireturn, 1) := ge_ireturn (by decide +kernel)
theorem d_X12_set_19 : decode prog_14_method_35_code 19 = .ok (.iload_n 3, 1) := ge_iload_n_3 (by decide +kernel)
theorem d_X12_set_20 : decode prog_14_method_35_code 20 = .ok (.iconst 0, 1) := ge_iconst_0 (by decide +kernel)
theorem d_X12_set_21 : decode prog_14_method_35_code 21 = .ok (.iload_n 2, 1) := ge_iload_n_2 (by decide +kernel)
theorem d_X12_set_22 : decode prog_14_method_35_code 22 = .ok (.ifCond .ne 8, 3) := ge_ifCond_ne (by decide +kernel)
theorem d_X12_set_25 : decode prog_14_method_35_code 25 = .ok (.bipush 6, 2) := ge_bipush (by decide +kernel)
theorem d_X12_set_27 : decode prog_14_method_35_code 27 = .ok (.goto 16, 3) := ge_goto (by decide +kernel)
theorem d_X12_set_30 : decode prog_14_method_35_code 30 = .ok (.iload_n 2, 1) := ge_iload_n_2 (by decide +kernel)
theorem d_X12_set_31 : decode prog_14_method_35_code 31 = .ok (.iconst 1, 1) := ge_iconst_1 (by decide +kernel)
theorem d_X12_set_32 : decode prog_14_method_35_code 32 = .ok (.if_icmp .ne 9, 3) := ge_if_icmp_ne (by decide +kernel)
theorem d_X12_set_35 : decode prog_14_method_35_code 35 = .ok (.sipush 999, 3) := ge_sipush (by decide +kernel)
theorem d_X12_set_38 : decode prog_14_method_35_code 38 = .ok (.goto 5, 3) := ge_goto (by decide +kernel)
theorem d_X12_set_41 : decode prog_14_method_35_code 41 = .ok (.bipush 99, 2) := ge_bipush (by decide +kernel)
theorem d_X12_set_43 : decode prog_14_method_35_code 43 = .ok (.invokestatic 44, 3) := ge_invokestatic (by decide +kernel)
theorem d_X12_set_46 : decode prog_14_method_35_code 46 = .ok (.ifCond .ne 6, 3) := ge_ifCond_ne (by decide +kernel)
theorem d_X12_set_49 : decode prog_14_method_35_code 49 = .ok (.bipush (-2), 2) := ge_bipush (by decide +kernel)
theorem d_X12_set_51 : decode prog_14_method_35_code 51 = .ok (.ireturn, 1) := ge_ireturn (by decide +kernel)
theorem d_X12_set_52 : decode prog_14_method_35_code 52 = .ok (.iconst 1, 1) := ge_iconst_1 (by decide +kernel)
theorem d_X12_set_53 : decode prog_14_method_35_code 53 = .ok (.iconst 5, 1) := ge_iconst_5 (by decide +kernel)
theorem d_X12_set_54 : decode prog_14_method_35_code 54 = .ok (.iload_n 2, 1) := ge_iload_n_2 (by decide +kernel)
theorem d_X12_set_55 : decode prog_14_method_35_code 55 = .ok (.imul, 1) := ge_imul (by decide +kernel)
theorem d_X12_set_56 : decode prog_14_method_35_code 56 = .ok (.iadd, 1) := ge_iadd (by decide +kernel)
theorem d_X12_set_57 : decode prog_14_method_35_code 57 = .ok (.iload_n 1, 1) := ge_iload_n_1 (by decide +kernel)
theorem d_X12_set_58 : decode prog_14_method_35_code 58 = .ok (.iadd, 1) := ge_iadd (by decide +kernel)
theorem d_X12_set_59 : decode prog_14_method_35_code 59 = .ok (.istore 4, 2) := ge_istore (by decide +kernel)
theorem d_X12_set_61 : decode prog_14_method_35_code 61 = .ok (.aload_n 0, 1) := ge_aload_n_0 (by decide +kernel)
theorem d_X12_set_62 : decode prog_14_method_35_code 62 = .ok (.getfield 9, 3) := ge_getfield (by decide +kernel)
theorem d_X12_set_65 : decode prog_14_method_35_code 65 = .ok (.iload 4, 2) := ge_iload (by decide +kernel)
theorem d_X12_set_67 : decode prog_14_method_35_code 67 = .ok (.iaload, 1) := ge_iaload (by decide +kernel)
theorem d_X12_set_68 : decode prog_14_method_35_code 68 = .ok (.istore 5, 2) := ge_istore (by decide +kernel)
theorem d_X12_set_70 : decode prog_14_method_35_code 70 = .ok (.aload_n 0, 1) := ge_aload_n_0 (by decide +kernel)
theorem d_X12_set_71 : decode prog_14_method_35_code 71 = .ok (.getfield 9, 3) := ge_getfield (by decide +kernel)
theorem d_X12_set_74 : decode prog_14_method_35_code 74 = .ok (.iload 4, 2) := ge_iload (by decide +kernel)
theorem d_X12_set_76 : decode prog_14_method_35_code 76 = .ok (.iload_n 3, 1) := ge_iload_n_3 (by decide +kernel)
theorem d_X12_set_77 : decode prog_14_method_35_code 77 = .ok (.iastore, 1) := ge_iastore (by decide +kernel)
theorem d_X12_set_78 : decode prog_14_method_35_code 78 = .ok (.iload 5, 2) := ge_iload (by decide +kernel)
theorem d_X12_set_80 : decode prog_14_method_35_code 80 = .ok (.ireturn, 1) := ge_ireturn (by decide +kernel)
def f_X12_set (a0 : Nat) (a1 : Int32) (a2 : Int32) (a3 : Int32) (μ : gm_M) : Option (Option Value × gm_M) := if gm_tag μ a0 = 17 then gm_bI (f_X12_isChild a0 a1 μ) (fun x2 m1 => if x2 = 0 then some (some (.int (-1 : Int32)), m1) else gm_bI (f_X12_in a2 (0 : Int32) (2 : Int32) m1) (fun x4 m3 => if x4 ≠ 0 then gm_j (fun (s5 : Int32) => gm_bI (f_X12_in a3 (0 : Int32) s5 m3) (fun x8 m7 => if x8 ≠ 0 then gm_gR m7 [17] a0 1 (fun v9 => gm_aI m7 v9 (((1 : Int32) + ((5 : Int32) * a2)) + a1) (fun v10 => gm_gR m7 [17] a0 1 (fun v11 => gm_sI m7 v11 (((1 : Int32) + ((5 : Int32) * a2)) + a1) a3 (fun m12 => some (some (.int v10), m12))))) else some (some (.int (-2 : Int32)), m7))) (fun j6 => if a2 ≠ 0 then if a2 ≠ (1 : Int32) then j6 (99 : Int32) else j6 (999 : Int32) else j6 (6 : Int32)) else some (some (.int (-1 : Int32)), m3))) else none
set_option maxHeartbeats 4000000 in
theorem c_X12_set (a0 : Nat) (a1 : Int32) (a2 : Int32) (a3 : Int32) (μ : gm_M) : gm_Call ({ cls := "GumBubbleModel", name := "set", desc := "(III)I" } : Jvm.MethodName) prog_14_method_35_code 6 (some .int) 2 0 0 [.ref a0, .int a1, .int a2, .int a3] μ (f_X12_set a0 a1 a2 a3 μ) := by
  refine gm_start PN_12 (Nat.le_of_ble_eq_true rfl) (fun res μe => ?_)
  unfold f_X12_set
  show gm_A "GumBubbleModel" (gm_nm "set") _ _ _ _ _ _ _ _ _ 0 [(0, .ref a0), (1, .int a1), (2, .int a2), (3, .int a3)] [] _ _
  refine gm_aload_n d_X12_set_0 rfl 0 rfl ?_
  refine gm_iload_n d_X12_set_1 rfl 1 rfl ?_
  refine gm_grd (fun g2 => ?_)
  refine gm_callV (k0 := 12) [.int a1] (c_X12_isChild a0 a1 μ) g2 rfl B_X12_isChild gw_1047 gs_40 rfl rfl rfl d_X12_set_2 (gm_kI (fun x2 m1 => ?_))
  refine gm_if_eq (tgt := 17) d_X12_set_5 (by decide) (fun h5 => ?_) (fun h5 => ?_)
  ·
    refine gm_iconst (v := -1) d_X12_set_17 (by decide) ?_
    exact gm_iret rfl d_X12_set_18 (Nat.le_of_ble_eq_true rfl) (Nat.le_of_ble_eq_true rfl) (fun h => h)
  ·
    refine gm_iload_n d_X12_set_8 rfl 2 rfl ?_
    refine gm_iconst (v := 0) d_X12_set_9 (by decide) ?_
    refine gm_iconst (v := 2) d_X12_set_10 (by decide) ?_
    refine gm_callS [.int a2, .int (0 : Int32), .int (2 : Int32)] (c_X12_in a2 (0 : Int32) (2 : Int32) m1) B_X12_in gw_964 rfl rfl rfl d_X12_set_11 (gm_kI (fun x4 m3 => ?_))
    refine gm_if_ne (tgt := 19) d_X12_set_14 (by decide) (fun h14 => ?_) (fun h14 => ?_)
    ·
      refine gm_iload_n d_X12_set_19 rfl 3 rfl ?_
      refine gm_iconst (v := 0) d_X12_set_20 (by decide) ?_
      refine gm_iload_n d_X12_set_21 rfl 2 rfl ?_
      refine gm_join (S := Int32) (pj := 43) (kj := 0) (nj := 0) (fun s5 => m3) (fun s5 => [(0, .ref a0), (1, .int a1), (2, .int a2), (3, .int a3)]) (fun s5 => [.int s5, .int (0 : Int32), .int a3]) (fun s5 => ?_) (fun j6 hj6 => ?_)
      ·
        refine gm_callS [.int a3, .int (0 : Int32), .int s5] (c_X12_in a3 (0 : Int32) s5 m3) B_X12_in gw_964 rfl rfl rfl d_X12_set_43 (gm_kI (fun x8 m7 => ?_))
        refine gm_if_ne (tgt := 52) d_X12_set_46 (by decide) (fun h46 => ?_) (fun h46 => ?_)
        ·
          refine gm_iconst (v := 1) d_X12_set_52 (by decide) ?_
          refine gm_iconst (v := 5) d_X12_set_53 (by decide) ?_
          refine gm_iload_n d_X12_set_54 rfl 2 rfl ?_
          refine gm_imul d_X12_set_55 ?_
          refine gm_iadd d_X12_set_56 ?_
          refine gm_iload_n d_X12_set_57 rfl 1 rfl ?_
          refine gm_iadd d_X12_set_58 ?_
          refine gm_istore (L' := [(4, .int (((1 : Int32) + ((5 : Int32) * a2)) + a1)), (0, .ref a0), (1, .int a1), (2, .int a2), (3, .int a3)]) d_X12_set_59 (Nat.le_of_ble_eq_true rfl) rfl ?_
          refine gm_aload_n d_X12_set_61 rfl 1 rfl ?_
          refine gm_getR F_12_s gw_890 d_X12_set_62 (fun v9 _ => ?_)
          refine gm_iload d_X12_set_65 0 rfl ?_
          refine gm_iald d_X12_set_67 (fun v10 _ => ?_)
          refine gm_istore (L' := [(5, .int v10), (4, .int (((1 : Int32) + ((5 : Int32) * a2)) + a1)), (0, .ref a0), (1, .int a1), (2, .int a2), (3, .int a3)]) d_X12_set_68 (Nat.le_of_ble_eq_true rfl) rfl ?_
          refine gm_aload_n d_X12_set_70 rfl 2 rfl ?_
          refine gm_getR F_12_s gw_890 d_X12_set_71 (fun v11 _ => ?_)
          refine gm_iload d_X12_set_74 1 rfl ?_
          refine gm_iload_n d_X12_set_76 rfl 5 rfl ?_
          refine gm_iast d_X12_set_77 (fun m12 _ => ?_)
          refine gm_iload d_X12_set_78 0 rfl ?_
          exact gm_iret rfl d_X12_set_80 (Nat.le_of_ble_eq_true rfl) (Nat.le_of_ble_eq_true rfl) (fun h => h)
        ·
          refine gm_bipush (v := -2) d_X12_set_49 (by decide) ?_
          exact gm_iret rfl d_X12_set_51 (Nat.le_of_ble_eq_true rfl) (Nat.le_of_ble_eq_true rfl) (fun h => h)
      ·
        refine gm_if_ne (tgt := 30) d_X12_set_22 (by decide) (fun h22 => ?_) (fun h22 => ?_)
        ·
          refine gm_iload_n d_X12_set_30 rfl 2 rfl ?_
          refine gm_iconst (v := 1) d_X12_set_31 (by decide) ?_
          refine gm_icmp_ne (tgt := 41) d_X12_set_32 (by decide) (fun h32 => ?_) (fun h32 => ?_)
          ·
            refine gm_bipush (v := 99) d_X12_set_41 (by decide) ?_
            exact hj6 (99 : Int32)
          ·
            refine gm_sipush (v := 999) d_X12_set_35 (by decide) ?_
            refine gm_goto (tgt := 43) d_X12_set_38 (by decide) ?_
            exact hj6 (999 : Int32)
        ·
          refine gm_bipush (v := 6) d_X12_set_25 (by decide) ?_
          refine gm_goto (tgt := 43) d_X12_set_27 (by decide) ?_
          exact hj6 (6 : Int32)
    ·
      refine gm_iconst (v := -1) d_X12_set_17 (by decide) ?_
      exact gm_iret rfl d_X12_set_18 (Nat.le_of_ble_eq_true rfl) (Nat.le_of_ble_eq_true rfl) (fun h => h)
theorem d_X12_slack_0 : decode prog_14_method_52_code 0 = .ok (.aload_n 0, 1) := ge_aload_n_0 (by decide +kernel)
theorem d_X12_slack_1 : decode prog_14_method_52_code 1 = .ok (.iload_n 1, 1) := ge_iload_n_1 (by decide +kernel)
theorem d_X12_slack_2 : decode prog_14_method_52_code 2 = .ok (.invokevirtual 154, 3) := ge_invokevirtual (by decide +kernel)
theorem d_X12_slack_5 : decode prog_14_method_52_code 5 = .ok (.ifCond .eq 11, 3) := ge_ifCond_eq (by decide +kernel)
theorem d_X12_slack_8 : decode prog_14_method_52_code 8 = .ok (.aload_n 0, 1) := ge_aload_n_0 (by decide +kernel)
theorem d_X12_slack_9 : decode prog_14_method_52_code 9 = .ok (.iload_n 1, 1) := ge_iload_n_1 (by decide +kernel)
theorem d_X12_slack_10 : decode prog_14_method_52_code 10 = .ok (.invokevirtual 201, 3) := ge_invokevirtual (by decide +kernel)
theorem d_X12_slack_13 : decode prog_14_method_52_code 13 = .ok (.goto 6, 3) := ge_goto (by decide +kernel)
theorem d_X12_slack_16 : decode prog_14_method_52_code 16 = .ok (.sipush (-10001), 3) := ge_sipush (by decide +kernel)
theorem d_X12_slack_19 : decode prog_14_method_52_code 19 = .ok (.ireturn, 1) := ge_ireturn (by decide +kernel)
def f_X12_slack (a0 : Nat) (a1 : Int32) (μ : gm_M) : Option (Option Value × gm_M) := if gm_tag μ a0 = 17 then gm_bI (f_X12_isChild a0 a1 μ) (fun x2 m1 => if x2 = 0 then some (some (.int (-10001 : Int32)), m1) else if gm_tag m1 a0 = 17 then gm_bI (f_X12_slackOf a0 a1 m1) (fun x4 m3 => some (some (.int x4), m3)) else none) else none
set_option maxHeartbeats 4000000 in
theorem c_X12_slack (a0 : Nat) (a1 : Int32) (μ : gm_M) : gm_Call ({ cls := "GumBubbleModel", name := "slack", desc := "(I)I" } : Jvm.MethodName) prog_14_method_52_code 2 (some .int) 5 0 0 [.ref a0, .int a1] μ (f_X12_slack a0 a1 μ) := by
  refine gm_start PN_12 (Nat.le_of_ble_eq_true rfl) (fun res μe => ?_)
  unfold f_X12_slack
  show gm_A "GumBubbleModel" (gm_nm "slack") _ _ _ _ _ _ _ _ _ 0 [(0, .ref a0), (1, .int a1)] [] _ _
  refine gm_aload_n d_X12_slack_0 rfl 0 rfl ?_
  refine gm_iload_n d_X12_slack_1 rfl 1 rfl ?_
  refine gm_grd (fun g2 => ?_)
  refine gm_callV (k0 := 12) [.int a1] (c_X12_isChild a0 a1 μ) g2 rfl B_X12_isChild gw_1047 gs_40 rfl rfl rfl d_X12_slack_2 (gm_kI (fun x2 m1 => ?_))
  refine gm_if_eq (tgt := 16) d_X12_slack_5 (by decide) (fun h5 => ?_) (fun h5 => ?_)
  ·
    refine gm_sipush (v := -10001) d_X12_slack_16 (by decide) ?_
    exact gm_iret rfl d_X12_slack_19 (Nat.le_of_ble_eq_true rfl) (Nat.le_of_ble_eq_true rfl) (fun h => h)
  ·
    refine gm_aload_n d_X12_slack_8 rfl 0 rfl ?_
    refine gm_iload_n d_X12_slack_9 rfl 1 rfl ?_
    refine gm_grd (fun g10 => ?_)
    refine gm_callV (k0 := 12) [.int a1] (c_X12_slackOf a0 a1 m1) g10 rfl B_X12_slackOf gw_1158 gs_56 rfl rfl rfl d_X12_slack_10 (gm_kI (fun x4 m3 => ?_))
    refine gm_goto (tgt := 19) d_X12_slack_13 (by decide) ?_
    exact gm_iret rfl d_X12_slack_19 (Nat.le_of_ble_eq_true rfl) (Nat.le_of_ble_eq_true rfl) (fun h => h)
theorem d_X12_soon_0 : decode prog_14_method_48_code 0 = .ok (.aload_n 0, 1) := ge_aload_n_0 (by decide +kernel)
theorem d_X12_soon_1 : decode prog_14_method_48_code 1 = .ok (.iload_n 1, 1) := ge_iload_n_1 (by decide +kernel)
theorem d_X12_soon_2 : decode prog_14_method_48_code 2 = .ok (.invokevirtual 154, 3) := ge_invokevirtual (by decide +kernel)
theorem d_X12_soon_5 : decode prog_14_method_48_code 5 = .ok (.ifCond .ne 5, 3) := ge_ifCond_ne (by decide +kernel)
theorem d_X12_soon_8 : decode prog_14_method_48_code 8 = .ok (.iconst (-1), 1) := ge_iconst_m1_ (by decide +kernel)
theorem d_X12_soon_9 : decode prog_14_method_48_code 9 = .ok (.ireturn, 1) := ge_ireturn (by decide +kernel)
theorem d_X12_soon_10 : decode prog_14_method_48_code 10 = .ok (.iload_n 2, 1) := ge_iload_n_2 (by decide +kernel)
theorem d_X12_soon_11 : decode prog_14_method_48_code 11 = .ok (.iconst 1, 1) := ge_iconst_1 (by decide +kernel)
theorem d_X12_soon_12 : decode prog_14_method_48_code 12 = .ok (.sipush 999, 3) := ge_sipush (by decide +kernel)
theorem d_X12_soon_15 : decode prog_14_method_48_code 15 = .ok (.invokestatic 44, 3) := ge_invokestatic (by decide +kernel)
theorem d_X12_soon_18 : decode prog_14_method_48_code 18 = .ok (.ifCond .ne 6, 3) := ge_ifCond_ne (by decide +kernel)
theorem d_X12_soon_21 : decode prog_14_method_48_code 21 = .ok (.bipush (-2), 2) := ge_bipush (by decide +kernel)
theorem d_X12_soon_23 : decode prog_14_method_48_code 23 = .ok (.ireturn, 1) := ge_ireturn (by decide +kernel)
theorem d_X12_soon_24 : decode prog_14_method_48_code 24 = .ok (.aload_n 0, 1) := ge_aload_n_0 (by decide +kernel)
theorem d_X12_soon_25 : decode prog_14_method_48_code 25 = .ok (.invokevirtual 183, 3) := ge_invokevirtual (by decide +kernel)
theorem d_X12_soon_28 : decode prog_14_method_48_code 28 = .ok (.bipush (-5), 2) := ge_bipush (by decide +kernel)
theorem d_X12_soon_30 : decode prog_14_method_48_code 30 = .ok (.istore_n 3, 1) := ge_istore_n_3 (by decide +kernel)
theorem d_X12_soon_31 : decode prog_14_method_48_code 31 = .ok (.iconst 0, 1) := ge_iconst_0 (by decide +kernel)
theorem d_X12_soon_32 : decode prog_14_method_48_code 32 = .ok (.istore 4, 2) := ge_istore (by decide +kernel)
theorem d_X12_soon_34 : decode prog_14_method_48_code 34 = .ok (.iload 4, 2) := ge_iload (by decide +kernel)
theorem d_X12_soon_36 : decode prog_14_method_48_code 36 = .ok (.bipush 60, 2) := ge_bipush (by decide +kernel)
theorem d_X12_soon_38 : decode prog_14_method_48_code 38 = .ok (.if_icmp .gt 37, 3) := ge_if_icmp_gt (by decide +kernel)
theorem d_X12_soon_41 : decode prog_14_method_48_code 41 = .ok (.iload_n 3, 1) := ge_iload_n_3 (by decide +kernel)
theorem d_X12_soon_42 : decode prog_14_method_48_code 42 = .ok (.bipush (-5), 2) := ge_bipush (by decide +kernel)
theorem d_X12_soon_44 : decode prog_14_method_48_code 44 = .ok (.if_icmp .ne 31, 3) := ge_if_icmp_ne (by decide +kernel)
theorem d_X12_soon_47 : decode prog_14_method_48_code 47 = .ok (.aload_n 0, 1) := ge_aload_n_0 (by decide +kernel)
theorem d_X12_soon_48 : decode prog_14_method_48_code 48 = .ok (.iload_n 1, 1) := ge_iload_n_1 (by decide +kernel)
theorem d_X12_soon_49 : decode prog_14_method_48_code 49 = .ok (.invokevirtual 148, 3) := ge_invokevirtual (by decide +kernel)
theorem d_X12_soon_52 : decode prog_14_method_48_code 52 = .ok (.iload_n 2, 1) := ge_iload_n_2 (by decide +kernel)
theorem d_X12_soon_53 : decode prog_14_method_48_code 53 = .ok (.if_icmp .lt 8, 3) := ge_if_icmp_lt (by decide +kernel)
theorem d_X12_soon_56 : decode prog_14_method_48_code 56 = .ok (.iload 4, 2) := ge_iload (by decide +kernel)
theorem d_X12_soon_58 : decode prog_14_method_48_code 58 = .ok (.goto 5, 3) := ge_goto (by decide +kernel)
theorem d_X12_soon_61 : decode prog_14_method_48_code 61 = .ok (.bipush (-5), 2) := ge_bipush (by decide +kernel)
theorem d_X12_soon_63 : decode prog_14_method_48_code 63 = .ok (.istore_n 3, 1) := ge_istore_n_3 (by decide +kernel)
theorem d_X12_soon_64 : decode prog_14_method_48_code 64 = .ok (.aload_n 0, 1) := ge_aload_n_0 (by decide +kernel)
theorem d_X12_soon_65 : decode prog_14_method_48_code 65 = .ok (.iload_n 1, 1) := ge_iload_n_1 (by decide +kernel)
theorem d_X12_soon_66 : decode prog_14_method_48_code 66 = .ok (.invokevirtual 195, 3) := ge_invokevirtual (by decide +kernel)
theorem d_X12_soon_69 : decode prog_14_method_48_code 69 = .ok (.iinc 4 1, 3) := ge_iinc (by decide +kernel)
theorem d_X12_soon_72 : decode prog_14_method_48_code 72 = .ok (.goto (-38), 3) := ge_goto (by decide +kernel)
theorem d_X12_soon_75 : decode prog_14_method_48_code 75 = .ok (.aload_n 0, 1) := ge_aload_n_0 (by decide +kernel)
theorem d_X12_soon_76 : decode prog_14_method_48_code 76 = .ok (.invokevirtual 186, 3) := ge_invokevirtual (by decide +kernel)
theorem d_X12_soon_79 : decode prog_14_method_48_code 79 = .ok (.iload_n 3, 1) := ge_iload_n_3 (by decide +kernel)
theorem d_X12_soon_80 : decode prog_14_method_48_code 80 = .ok (.ireturn, 1) := ge_ireturn (by decide +kernel)
def f_X12_soon (a0 : Nat) (a1 : Int32) (a2 : Int32) (μ : gm_M) : Option (Option Value × gm_M) := if gm_tag μ a0 = 17 then gm_bI (f_X12_isChild a0 a1 μ) (fun x2 m1 => if x2 ≠ 0 then gm_bI (f_X12_in a2 (1 : Int32) (999 : Int32) m1) (fun x4 m3 => if x4 ≠ 0 then if gm_tag m3 a0 = 17 then gm_bV (f_X12_keeps a0 m3) (fun m5 => gm_loop (fun (s7 : Int32 × Int32 × gm_M) => gm_j (fun (s8 : Unit) => if gm_tag s7.2.2 a0 = 17 then gm_bV (f_X12_goesBack a0 s7.2.2) (fun m10 => some (Sum.inr (some (.int s7.1), m10))) else none) (fun j9 => if (60 : Int32) < s7.2.1 then j9 () else if s7.1 ≠ (-5 : Int32) then j9 () else if gm_tag s7.2.2 a0 = 17 then gm_bI (f_X12_holdsOf a0 a1 s7.2.2) (fun x13 m12 => gm_j (fun (s14 : Int32) => if gm_tag m12 a0 = 17 then gm_bV (f_X12_goesAlone a0 a1 m12) (fun m16 => some (Sum.inl (s14, (s7.2.1 + (1 : Int32)), m16))) else none) (fun j15 => if x13 < a2 then j15 (-5 : Int32) else j15 s7.2.1)) else none)) 5000 ((-5 : Int32), (0 : Int32), m5)) else none else some (some (.int (-2 : Int32)), m3)) else some (some (.int (-1 : Int32)), m1)) else none
set_option maxHeartbeats 4000000 in
theorem c_X12_soon (a0 : Nat) (a1 : Int32) (a2 : Int32) (μ : gm_M) : gm_Call ({ cls := "GumBubbleModel", name := "soon", desc := "(II)I" } : Jvm.MethodName) prog_14_method_48_code 5 (some .int) 4 0 0 [.ref a0, .int a1, .int a2] μ (f_X12_soon a0 a1 a2 μ) := by
  refine gm_start PN_12 (Nat.le_of_ble_eq_true rfl) (fun res μe => ?_)
  unfold f_X12_soon
  show gm_A "GumBubbleModel" (gm_nm "soon") _ _ _ _ _ _ _ _ _ 0 [(0, .ref a0), (1, .int a1), (2, .int a2)] [] _ _
  refine gm_aload_n d_X12_soon_0 rfl 0 rfl ?_
  refine gm_iload_n d_X12_soon_1 rfl 1 rfl ?_
  refine gm_grd (fun g2 => ?_)
  refine gm_callV (k0 := 12) [.int a1] (c_X12_isChild a0 a1 μ) g2 rfl B_X12_isChild gw_1047 gs_40 rfl rfl rfl d_X12_soon_2 (gm_kI (fun x2 m1 => ?_))
  refine gm_if_ne (tgt := 10) d_X12_soon_5 (by decide) (fun h5 => ?_) (fun h5 => ?_)
  ·
    refine gm_iload_n d_X12_soon_10 rfl 2 rfl ?_
    refine gm_iconst (v := 1) d_X12_soon_11 (by decide) ?_
    refine gm_sipush (v := 999) d_X12_soon_12 (by decide) ?_
    refine gm_callS [.int a2, .int (1 : Int32), .int (999 : Int32)] (c_X12_in a2 (1 : Int32) (999 : Int32) m1) B_X12_in gw_964 rfl rfl rfl d_X12_soon_15 (gm_kI (fun x4 m3 => ?_))
    refine gm_if_ne (tgt := 24) d_X12_soon_18 (by decide) (fun h18 => ?_) (fun h18 => ?_)
    ·
      refine gm_aload_n d_X12_soon_24 rfl 0 rfl ?_
      refine gm_grd (fun g25 => ?_)
      refine gm_callV (k0 := 12) [] (c_X12_keeps a0 m3) g25 rfl B_X12_keeps gw_1126 gs_52 rfl rfl rfl d_X12_soon_25 (gm_kV (fun m5 => ?_))
      refine gm_bipush (v := -5) d_X12_soon_28 (by decide) ?_
      refine gm_istore_n (L' := [(3, .int (-5 : Int32)), (0, .ref a0), (1, .int a1), (2, .int a2)]) d_X12_soon_30 rfl (Nat.le_of_ble_eq_true rfl) rfl ?_
      refine gm_iconst (v := 0) d_X12_soon_31 (by decide) ?_
      refine gm_istore (L' := [(4, .int (0 : Int32)), (3, .int (-5 : Int32)), (0, .ref a0), (1, .int a1), (2, .int a2)]) d_X12_soon_32 (Nat.le_of_ble_eq_true rfl) rfl ?_
      refine gm_sub (L' := [(0, .ref a0), (1, .int a1), (2, .int a2), (3, .int (-5 : Int32)), (4, .int (0 : Int32))]) [2, 3, 4, 1, 0] rfl ?_
      refine gm_lp (S := Int32 × Int32 × gm_M) (fun _ => 0) (fun _ => 0) (fun s7 => s7.2.2) (fun s7 => [(0, .ref a0), (1, .int a1), (2, .int a2), (3, .int s7.1), (4, .int s7.2.1)]) (fun _ => []) (fun s7 => ?_) 5000 ((-5 : Int32), (0 : Int32), m5)
      refine gm_iload d_X12_soon_34 4 rfl ?_
      refine gm_bipush (v := 60) d_X12_soon_36 (by decide) ?_
      refine gm_join (S := Unit) (pj := 75) (kj := 0) (nj := 0) (fun s8 => s7.2.2) (fun s8 => [(0, .ref a0), (1, .int a1), (2, .int a2), (3, .int s7.1), (4, .int s7.2.1)]) (fun s8 => []) (fun s8 => ?_) (fun j9 hj9 => ?_)
      ·
        refine gm_aload_n d_X12_soon_75 rfl 0 rfl ?_
        refine gm_grd (fun g76 => ?_)
        refine gm_callV (k0 := 12) [] (c_X12_goesBack a0 s7.2.2) g76 rfl B_X12_goesBack gw_1130 gs_53 rfl rfl rfl d_X12_soon_76 (gm_kV (fun m10 => ?_))
        refine gm_iload_n d_X12_soon_79 rfl 3 rfl ?_
        exact gm_iret rfl d_X12_soon_80 (Nat.le_of_ble_eq_true rfl) (Nat.le_of_ble_eq_true rfl) (fun h => h)
      ·
        refine gm_icmp_gt (tgt := 75) d_X12_soon_38 (by decide) (fun h38 => ?_) (fun h38 => ?_)
        ·
          exact hj9 ()
        ·
          refine gm_iload_n d_X12_soon_41 rfl 3 rfl ?_
          refine gm_bipush (v := -5) d_X12_soon_42 (by decide) ?_
          refine gm_icmp_ne (tgt := 75) d_X12_soon_44 (by decide) (fun h44 => ?_) (fun h44 => ?_)
          ·
            exact hj9 ()
          ·
            refine gm_aload_n d_X12_soon_47 rfl 0 rfl ?_
            refine gm_iload_n d_X12_soon_48 rfl 1 rfl ?_
            refine gm_grd (fun g49 => ?_)
            refine gm_callV (k0 := 12) [.int a1] (c_X12_holdsOf a0 a1 s7.2.2) g49 rfl B_X12_holdsOf gw_1074 gs_45 rfl rfl rfl d_X12_soon_49 (gm_kI (fun x13 m12 => ?_))
            refine gm_iload_n d_X12_soon_52 rfl 2 rfl ?_
            refine gm_join (S := Int32) (pj := 63) (kj := 0) (nj := 0) (fun s14 => m12) (fun s14 => [(0, .ref a0), (1, .int a1), (2, .int a2), (3, .int s7.1), (4, .int s7.2.1)]) (fun s14 => [.int s14]) (fun s14 => ?_) (fun j15 hj15 => ?_)
            ·
              refine gm_istore_n (L' := [(3, .int s14), (0, .ref a0), (1, .int a1), (2, .int a2), (4, .int s7.2.1)]) d_X12_soon_63 rfl (Nat.le_of_ble_eq_true rfl) rfl ?_
              refine gm_aload_n d_X12_soon_64 rfl 1 rfl ?_
              refine gm_iload_n d_X12_soon_65 rfl 2 rfl ?_
              refine gm_grd (fun g66 => ?_)
              refine gm_callV (k0 := 12) [.int a1] (c_X12_goesAlone a0 a1 m12) g66 rfl B_X12_goesAlone gw_1142 gs_55 rfl rfl rfl d_X12_soon_66 (gm_kV (fun m16 => ?_))
              refine gm_iinc (v := s7.2.1 + (1 : Int32)) (L' := [(4, .int (s7.2.1 + (1 : Int32))), (3, .int s14), (0, .ref a0), (1, .int a1), (2, .int a2)]) d_X12_soon_69 4 rfl rfl (Nat.le_of_ble_eq_true rfl) rfl ?_
              refine gm_goto (tgt := 34) d_X12_soon_72 (by decide) ?_
              refine gm_sub (L' := [(0, .ref a0), (1, .int a1), (2, .int a2), (3, .int s14), (4, .int (s7.2.1 + (1 : Int32)))]) [2, 3, 4, 1, 0] rfl ?_
              exact gm_back (fun h => h)
            ·
              refine gm_icmp_lt (tgt := 61) d_X12_soon_53 (by decide) (fun h53 => ?_) (fun h53 => ?_)
              ·
                refine gm_bipush (v := -5) d_X12_soon_61 (by decide) ?_
                exact hj15 (-5 : Int32)
              ·
                refine gm_iload d_X12_soon_56 4 rfl ?_
                refine gm_goto (tgt := 63) d_X12_soon_58 (by decide) ?_
                exact hj15 s7.2.1
    ·
      refine gm_bipush (v := -2) d_X12_soon_21 (by decide) ?_
      exact gm_iret rfl d_X12_soon_23 (Nat.le_of_ble_eq_true rfl) (Nat.le_of_ble_eq_true rfl) (fun h => h)
  ·
    refine gm_iconst (v := -1) d_X12_soon_8 (by decide) ?_
    exact gm_iret rfl d_X12_soon_9 (Nat.le_of_ble_eq_true rfl) (Nat.le_of_ble_eq_true rfl) (fun h => h)
theorem d_X12_swapsAt_0 : decode prog_14_method_60_code 0 = .ok (.aload_n 0, 1) := ge_aload_n_0 (by decide +kernel)
theorem d_X12_swapsAt_1 : decode prog_14_method_60_code 1 = .ok (.getfield 9, 3) := ge_getfield (by decide +kernel)
theorem d_X12_swapsAt_4 : decode prog_14_method_60_code 4 = .ok (.iload_n 1, 1) := ge_iload_n_1 (by decide +kernel)
theorem d_X12_swapsAt_5 : decode prog_14_method_60_code 5 = .ok (.iload_n 2, 1) := ge_iload_n_2 (by decide +kernel)
theorem d_X12_swapsAt_6 : decode prog_14_method_60_code 6 = .ok (.iadd, 1) := ge_iadd (by decide +kernel)
theorem d_X12_swapsAt_7 : decode prog_14_method_60_code 7 = .ok (.iaload, 1) := ge_iaload (by decide +kernel)
theorem d_X12_swapsAt_8 : decode prog_14_method_60_code 8 = .ok (.istore 4, 2) := ge_istore (by decide +kernel)
theorem d_X12_swapsAt_10 : decode prog_14_method_60_code 10 = .ok (.aload_n 0, 1) := ge_aload_n_0 (by decide +kernel)
theorem d_X12_swapsAt_11 : decode prog_14_method_60_code 11 = .ok (.getfield 9, 3) := ge_getfield (by decide +kernel)
theorem d_X12_swapsAt_14 : decode prog_14_method_60_code 14 = .ok (.iload_n 1, 1) := ge_iload_n_1 (by decide +kernel)
theorem d_X12_swapsAt_15 : decode prog_14_method_60_code 15 = .ok (.iload_n 2, 1) := ge_iload_n_2 (by decide +kernel)
theorem d_X12_swapsAt_16 : decode prog_14_method_60_code 16 = .ok (.iadd, 1) := ge_iadd (by decide +kernel)
theorem d_X12_swapsAt_17 : decode prog_14_method_60_code 17 = .ok (.aload_n 0, 1) := ge_aload_n_0 (by decide +kernel)
theorem d_X12_swapsAt_18 : decode prog_14_method_60_code 18 = .ok (.getfield 9, 3) := ge_getfield (by decide +kernel)
theorem d_X12_swapsAt_21 : decode prog_14_method_60_code 21 = .ok (.iload_n 1, 1) := ge_iload_n_1 (by decide +kernel)
theorem d_X12_swapsAt_22 : decode prog_14_method_60_code 22 = .ok (.iload_n 3, 1) := ge_iload_n_3 (by decide +kernel)
theorem d_X12_swapsAt_23 : decode prog_14_method_60_code 23 = .ok (.iadd, 1) := ge_iadd (by decide +kernel)
theorem d_X12_swapsAt_24 : decode prog_14_method_60_code 24 = .ok (.iaload, 1) := ge_iaload (by decide +kernel)
theorem d_X12_swapsAt_25 : decode prog_14_method_60_code 25 = .ok (.iastore, 1) := ge_iastore (by decide +kernel)
theorem d_X12_swapsAt_26 : decode prog_14_method_60_code 26 = .ok (.aload_n 0, 1) := ge_aload_n_0 (by decide +kernel)
theorem d_X12_swapsAt_27 : decode prog_14_method_60_code 27 = .ok (.getfield 9, 3) := ge_getfield (by decide +kernel)
theorem d_X12_swapsAt_30 : decode prog_14_method_60_code 30 = .ok (.iload_n 1, 1) := ge_iload_n_1 (by decide +kernel)
theorem d_X12_swapsAt_31 : decode prog_14_method_60_code 31 = .ok (.iload_n 3, 1) := ge_iload_n_3 (by decide +kernel)
theorem d_X12_swapsAt_32 : decode prog_14_method_60_code 32 = .ok (.iadd, 1) := ge_iadd (by decide +kernel)
theorem d_X12_swapsAt_33 : decode prog_14_method_60_code 33 = .ok (.iload 4, 2) := ge_iload (by decide +kernel)
theorem d_X12_swapsAt_35 : decode prog_14_method_60_code 35 = .ok (.iastore, 1) := ge_iastore (by decide +kernel)
theorem d_X12_swapsAt_36 : decode prog_14_method_60_code 36 = .ok (.return_, 1) := ge_return_ (by decide +kernel)
def f_X12_swapsAt (a0 : Nat) (a1 : Int32) (a2 : Int32) (a3 : Int32) (μ : gm_M) : Option (Option Value × gm_M) := gm_gR μ [17] a0 1 (fun v1 => gm_aI μ v1 (a1 + a2) (fun v2 => gm_gR μ [17] a0 1 (fun v3 => gm_gR μ [17] a0 1 (fun v4 => gm_aI μ v4 (a1 + a3) (fun v5 => gm_sI μ v3 (a1 + a2) v5 (fun m6 => gm_gR m6 [17] a0 1 (fun v7 => gm_sI m6 v7 (a1 + a3) v2 (fun m8 => some (none, m8)))))))))
set_option maxHeartbeats 4000000 in
theorem c_X12_swapsAt (a0 : Nat) (a1 : Int32) (a2 : Int32) (a3 : Int32) (μ : gm_M) : gm_Call ({ cls := "GumBubbleModel", name := "swapsAt", desc := "(III)V" } : Jvm.MethodName) prog_14_method_60_code 5 none 0 0 0 [.ref a0, .int a1, .int a2, .int a3] μ (f_X12_swapsAt a0 a1 a2 a3 μ) := by
  refine gm_start PN_12 (Nat.le_of_ble_eq_true rfl) (fun res μe => ?_)
  unfold f_X12_swapsAt
  show gm_A "GumBubbleModel" (gm_nm "swapsAt") _ _ _ _ _ _ _ _ _ 0 [(0, .ref a0), (1, .int a1), (2, .int a2), (3, .int a3)] [] _ _
  refine gm_aload_n d_X12_swapsAt_0 rfl 0 rfl ?_
  refine gm_getR F_12_s gw_890 d_X12_swapsAt_1 (fun v1 _ => ?_)
  refine gm_iload_n d_X12_swapsAt_4 rfl 1 rfl ?_
  refine gm_iload_n d_X12_swapsAt_5 rfl 2 rfl ?_
  refine gm_iadd d_X12_swapsAt_6 ?_
  refine gm_iald d_X12_swapsAt_7 (fun v2 _ => ?_)
  refine gm_istore (L' := [(4, .int v2), (0, .ref a0), (1, .int a1), (2, .int a2), (3, .int a3)]) d_X12_swapsAt_8 (Nat.le_of_ble_eq_true rfl) rfl ?_
  refine gm_aload_n d_X12_swapsAt_10 rfl 1 rfl ?_
  refine gm_getR F_12_s gw_890 d_X12_swapsAt_11 (fun v3 _ => ?_)
  refine gm_iload_n d_X12_swapsAt_14 rfl 2 rfl ?_
  refine gm_iload_n d_X12_swapsAt_15 rfl 3 rfl ?_
  refine gm_iadd d_X12_swapsAt_16 ?_
  refine gm_aload_n d_X12_swapsAt_17 rfl 1 rfl ?_
  refine gm_getR F_12_s gw_890 d_X12_swapsAt_18 (fun v4 _ => ?_)
  refine gm_iload_n d_X12_swapsAt_21 rfl 2 rfl ?_
  refine gm_iload_n d_X12_swapsAt_22 rfl 4 rfl ?_
  refine gm_iadd d_X12_swapsAt_23 ?_
  refine gm_iald d_X12_swapsAt_24 (fun v5 _ => ?_)
  refine gm_iast d_X12_swapsAt_25 (fun m6 _ => ?_)
  refine gm_aload_n d_X12_swapsAt_26 rfl 1 rfl ?_
  refine gm_getR F_12_s gw_890 d_X12_swapsAt_27 (fun v7 _ => ?_)
  refine gm_iload_n d_X12_swapsAt_30 rfl 2 rfl ?_
  refine gm_iload_n d_X12_swapsAt_31 rfl 4 rfl ?_
  refine gm_iadd d_X12_swapsAt_32 ?_
  refine gm_iload d_X12_swapsAt_33 0 rfl ?_
  refine gm_iast d_X12_swapsAt_35 (fun m8 _ => ?_)
  exact gm_vret rfl d_X12_swapsAt_36 (Nat.le_of_ble_eq_true rfl) (Nat.le_of_ble_eq_true rfl) (fun h => h)
theorem d_X12_swaps_0 : decode prog_14_method_61_code 0 = .ok (.aload_n 0, 1) := ge_aload_n_0 (by decide +kernel)
theorem d_X12_swaps_1 : decode prog_14_method_61_code 1 = .ok (.iconst 1, 1) := ge_iconst_1 (by decide +kernel)
theorem d_X12_swaps_2 : decode prog_14_method_61_code 2 = .ok (.iload_n 1, 1) := ge_iload_n_1 (by decide +kernel)
theorem d_X12_swaps_3 : decode prog_14_method_61_code 3 = .ok (.iload_n 2, 1) := ge_iload_n_2 (by decide +kernel)
theorem d_X12_swaps_4 : decode prog_14_method_61_code 4 = .ok (.invokevirtual 220, 3) := ge_invokevirtual (by decide +kernel)
theorem d_X12_swaps_7 : decode prog_14_method_61_code 7 = .ok (.aload_n 0, 1) := ge_aload_n_0 (by decide +kernel)
theorem d_X12_swaps_8 : decode prog_14_method_61_code 8 = .ok (.bipush 6, 2) := ge_bipush (by decide +kernel)
theorem d_X12_swaps_10 : decode prog_14_method_61_code 10 = .ok (.iload_n 1, 1) := ge_iload_n_1 (by decide +kernel)
theorem d_X12_swaps_11 : decode prog_14_method_61_code 11 = .ok (.iload_n 2, 1) := ge_iload_n_2 (by decide +kernel)
theorem d_X12_swaps_12 : decode prog_14_method_61_code 12 = .ok (.invokevirtual 220, 3) := ge_invokevirtual (by decide +kernel)
theorem d_X12_swaps_15 : decode prog_14_method_61_code 15 = .ok (.return_, 1) := ge_return_ (by decide +kernel)
def f_X12_swaps (a0 : Nat) (a1 : Int32) (a2 : Int32) (μ : gm_M) : Option (Option Value × gm_M) := if gm_tag μ a0 = 17 then gm_bV (f_X12_swapsAt a0 (1 : Int32) a1 a2 μ) (fun m1 => if gm_tag m1 a0 = 17 then gm_bV (f_X12_swapsAt a0 (6 : Int32) a1 a2 m1) (fun m3 => some (none, m3)) else none) else none
set_option maxHeartbeats 4000000 in
theorem c_X12_swaps (a0 : Nat) (a1 : Int32) (a2 : Int32) (μ : gm_M) : gm_Call ({ cls := "GumBubbleModel", name := "swaps", desc := "(II)V" } : Jvm.MethodName) prog_14_method_61_code 3 none 1 0 0 [.ref a0, .int a1, .int a2] μ (f_X12_swaps a0 a1 a2 μ) := by
  refine gm_start PN_12 (Nat.le_of_ble_eq_true rfl) (fun res μe => ?_)
  unfold f_X12_swaps
  show gm_A "GumBubbleModel" (gm_nm "swaps") _ _ _ _ _ _ _ _ _ 0 [(0, .ref a0), (1, .int a1), (2, .int a2)] [] _ _
  refine gm_aload_n d_X12_swaps_0 rfl 0 rfl ?_
  refine gm_iconst (v := 1) d_X12_swaps_1 (by decide) ?_
  refine gm_iload_n d_X12_swaps_2 rfl 1 rfl ?_
  refine gm_iload_n d_X12_swaps_3 rfl 2 rfl ?_
  refine gm_grd (fun g4 => ?_)
  refine gm_callV (k0 := 12) [.int (1 : Int32), .int a1, .int a2] (c_X12_swapsAt a0 (1 : Int32) a1 a2 μ) g4 rfl B_X12_swapsAt gw_1202 gs_58 rfl rfl rfl d_X12_swaps_4 (gm_kV (fun m1 => ?_))
  refine gm_aload_n d_X12_swaps_7 rfl 0 rfl ?_
  refine gm_bipush (v := 6) d_X12_swaps_8 (by decide) ?_
  refine gm_iload_n d_X12_swaps_10 rfl 1 rfl ?_
  refine gm_iload_n d_X12_swaps_11 rfl 2 rfl ?_
  refine gm_grd (fun g12 => ?_)
  refine gm_callV (k0 := 12) [.int (6 : Int32), .int a1, .int a2] (c_X12_swapsAt a0 (6 : Int32) a1 a2 m1) g12 rfl B_X12_swapsAt gw_1202 gs_58 rfl rfl rfl d_X12_swaps_12 (gm_kV (fun m3 => ?_))
  exact gm_vret rfl d_X12_swaps_15 (Nat.le_of_ble_eq_true rfl) (Nat.le_of_ble_eq_true rfl) (fun h => h)
theorem d_X12_swap_0 : decode prog_14_method_62_code 0 = .ok (.bipush (-5), 2) := ge_bipush (by decide +kernel)
theorem d_X12_swap_2 : decode prog_14_method_62_code 2 = .ok (.istore_n 1, 1) := ge_istore_n_1 (by decide +kernel)
theorem d_X12_swap_3 : decode prog_14_method_62_code 3 = .ok (.aload_n 0, 1) := ge_aload_n_0 (by decide +kernel)
theorem d_X12_swap_4 : decode prog_14_method_62_code 4 = .ok (.invokevirtual 164, 3) := ge_invokevirtual (by decide +kernel)
theorem d_X12_swap_7 : decode prog_14_method_62_code 7 = .ok (.istore_n 2, 1) := ge_istore_n_2 (by decide +kernel)
theorem d_X12_swap_8 : decode prog_14_method_62_code 8 = .ok (.iconst 0, 1) := ge_iconst_0 (by decide +kernel)
theorem d_X12_swap_9 : decode prog_14_method_62_code 9 = .ok (.istore_n 3, 1) := ge_istore_n_3 (by decide +kernel)
theorem d_X12_swap_10 : decode prog_14_method_62_code 10 = .ok (.iload_n 3, 1) := ge_iload_n_3 (by decide +kernel)
theorem d_X12_swap_11 : decode prog_14_method_62_code 11 = .ok (.aload_n 0, 1) := ge_aload_n_0 (by decide +kernel)
theorem d_X12_swap_12 : decode prog_14_method_62_code 12 = .ok (.getfield 9, 3) := ge_getfield (by decide +kernel)
theorem d_X12_swap_15 : decode prog_14_method_62_code 15 = .ok (.bipush 26, 2) := ge_bipush (by decide +kernel)
theorem d_X12_swap_17 : decode prog_14_method_62_code 17 = .ok (.iaload, 1) := ge_iaload (by decide +kernel)
theorem d_X12_swap_18 : decode prog_14_method_62_code 18 = .ok (.if_icmp .ge 83, 3) := ge_if_icmp_ge (by decide +kernel)
theorem d_X12_swap_21 : decode prog_14_method_62_code 21 = .ok (.iload_n 3, 1) := ge_iload_n_3 (by decide +kernel)
theorem d_X12_swap_22 : decode prog_14_method_62_code 22 = .ok (.iconst 1, 1) := ge_iconst_1 (by decide +kernel)
theorem d_X12_swap_23 : decode prog_14_method_62_code 23 = .ok (.iadd, 1) := ge_iadd (by decide +kernel)
theorem d_X12_swap_24 : decode prog_14_method_62_code 24 = .ok (.istore 4, 2) := ge_istore (by decide +kernel)
theorem d_X12_swap_26 : decode prog_14_method_62_code 26 = .ok (.iload 4, 2) := ge_iload (by decide +kernel)
theorem d_X12_swap_28 : decode prog_14_method_62_code 28 = .ok (.aload_n 0, 1) := ge_aload_n_0 (by decide +kernel)
theorem d_X12_swap_29 : decode prog_14_method_62_code 29 = .ok (.getfield 9, 3) := ge_getfield (by decide +kernel)
theorem d_X12_swap_32 : decode prog_14_method_62_code 32 = .ok (.bipush 26, 2) := ge_bipush (by decide +kernel)
theorem d_X12_swap_34 : decode prog_14_method_62_code 34 = .ok (.iaload, 1) := ge_iaload (by decide +kernel)
theorem d_X12_swap_35 : decode prog_14_method_62_code 35 = .ok (.if_icmp .ge 60, 3) := ge_if_icmp_ge (by decide +kernel)
theorem d_X12_swap_38 : decode prog_14_method_62_code 38 = .ok (.aload_n 0, 1) := ge_aload_n_0 (by decide +kernel)
theorem d_X12_swap_39 : decode prog_14_method_62_code 39 = .ok (.iload_n 3, 1) := ge_iload_n_3 (by decide +kernel)
theorem d_X12_swap_40 : decode prog_14_method_62_code 40 = .ok (.iload 4, 2) := ge_iload (by decide +kernel)
theorem d_X12_swap_42 : decode prog_14_method_62_code 42 = .ok (.invokevirtual 224, 3) := ge_invokevirtual (by decide +kernel)
theorem d_X12_swap_45 : decode prog_14_method_62_code 45 = .ok (.aload_n 0, 1) := ge_aload_n_0 (by decide +kernel)
theorem d_X12_swap_46 : decode prog_14_method_62_code 46 = .ok (.invokevirtual 164, 3) := ge_invokevirtual (by decide +kernel)
theorem d_X12_swap_49 : decode prog_14_method_62_code 49 = .ok (.istore 5, 2) := ge_istore (by decide +kernel)
theorem d_X12_swap_51 : decode prog_14_method_62_code 51 = .ok (.aload_n 0, 1) := ge_aload_n_0 (by decide +kernel)
theorem d_X12_swap_52 : decode prog_14_method_62_code 52 = .ok (.iload_n 3, 1) := ge_iload_n_3 (by decide +kernel)
theorem d_X12_swap_53 : decode prog_14_method_62_code 53 = .ok (.iload 4, 2) := ge_iload (by decide +kernel)
theorem d_X12_swap_55 : decode prog_14_method_62_code 55 = .ok (.invokevirtual 224, 3) := ge_invokevirtual (by decide +kernel)
theorem d_X12_swap_58 : decode prog_14_method_62_code 58 = .ok (.iload 5, 2) := ge_iload (by decide +kernel)
theorem d_X12_swap_60 : decode prog_14_method_62_code 60 = .ok (.iload_n 2, 1) := ge_iload_n_2 (by decide +kernel)
theorem d_X12_swap_61 : decode prog_14_method_62_code 61 = .ok (.if_icmp .le 13, 3) := ge_if_icmp_le (by decide +kernel)
theorem d_X12_swap_64 : decode prog_14_method_62_code 64 = .ok (.bipush 10, 2) := ge_bipush (by decide +kernel)
theorem d_X12_swap_66 : decode prog_14_method_62_code 66 = .ok (.iload_n 3, 1) := ge_iload_n_3 (by decide +kernel)
theorem d_X12_swap_67 : decode prog_14_method_62_code 67 = .ok (.imul, 1) := ge_imul (by decide +kernel)
theorem d_X12_swap_68 : decode prog_14_method_62_code 68 = .ok (.iload 4, 2) := ge_iload (by decide +kernel)
theorem d_X12_swap_70 : decode prog_14_method_62_code 70 = .ok (.iadd, 1) := ge_iadd (by decide +kernel)
theorem d_X12_swap_71 : decode prog_14_method_62_code 71 = .ok (.goto 4, 3) := ge_goto (by decide +kernel)
theorem d_X12_swap_74 : decode prog_14_method_62_code 74 = .ok (.iload_n 1, 1) := ge_iload_n_1 (by decide +kernel)
theorem d_X12_swap_75 : decode prog_14_method_62_code 75 = .ok (.istore_n 1, 1) := ge_istore_n_1 (by decide +kernel)
theorem d_X12_swap_76 : decode prog_14_method_62_code 76 = .ok (.iload 5, 2) := ge_iload (by decide +kernel)
theorem d_X12_swap_78 : decode prog_14_method_62_code 78 = .ok (.iload_n 2, 1) := ge_iload_n_2 (by decide +kernel)
theorem d_X12_swap_79 : decode prog_14_method_62_code 79 = .ok (.if_icmp .le 8, 3) := ge_if_icmp_le (by decide +kernel)
theorem d_X12_swap_82 : decode prog_14_method_62_code 82 = .ok (.iload 5, 2) := ge_iload (by decide +kernel)
theorem d_X12_swap_84 : decode prog_14_method_62_code 84 = .ok (.goto 4, 3) := ge_goto (by decide +kernel)
theorem d_X12_swap_87 : decode prog_14_method_62_code 87 = .ok (.iload_n 2, 1) := ge_iload_n_2 (by decide +kernel)
theorem d_X12_swap_88 : decode prog_14_method_62_code 88 = .ok (.istore_n 2, 1) := ge_istore_n_2 (by decide +kernel)
theorem d_X12_swap_89 : decode prog_14_method_62_code 89 = .ok (.iinc 4 1, 3) := ge_iinc (by decide +kernel)
theorem d_X12_swap_92 : decode prog_14_method_62_code 92 = .ok (.goto (-66), 3) := ge_goto (by decide +kernel)
theorem d_X12_swap_95 : decode prog_14_method_62_code 95 = .ok (.iinc 3 1, 3) := ge_iinc (by decide +kernel)
theorem d_X12_swap_98 : decode prog_14_method_62_code 98 = .ok (.goto (-88), 3) := ge_goto (by decide +kernel)
theorem d_X12_swap_101 : decode prog_14_method_62_code 101 = .ok (.iload_n 1, 1) := ge_iload_n_1 (by decide +kernel)
theorem d_X12_swap_102 : decode prog_14_method_62_code 102 = .ok (.ireturn, 1) := ge_ireturn (by decide +kernel)
def f_X12_swap (a0 : Nat) (μ : gm_M) : Option (Option Value × gm_M) := if gm_tag μ a0 = 17 then gm_bI (f_X12_allHold a0 μ) (fun x2 m1 => gm_loop (fun (s3 : Int32 × Int32 × Int32 × gm_M) => gm_gR s3.2.2.2 [17] a0 1 (fun v4 => gm_aI s3.2.2.2 v4 (26 : Int32) (fun v5 => if v5 ≤ s3.2.2.1 then some (Sum.inr (some (.int s3.1), s3.2.2.2)) else gm_loop (fun (s6 : Int32 × Int32 × Int32 × gm_M) => gm_gR s6.2.2.2 [17] a0 1 (fun v7 => gm_aI s6.2.2.2 v7 (26 : Int32) (fun v8 => if v8 ≤ s6.2.2.1 then some (Sum.inr (Sum.inl (s6.1, s6.2.1, (s3.2.2.1 + (1 : Int32)), s6.2.2.2))) else if gm_tag s6.2.2.2 a0 = 17 then gm_bV (f_X12_swaps a0 s3.2.2.1 s6.2.2.1 s6.2.2.2) (fun m9 => if gm_tag m9 a0 = 17 then gm_bI (f_X12_allHold a0 m9) (fun x12 m11 => if gm_tag m11 a0 = 17 then gm_bV (f_X12_swaps a0 s3.2.2.1 s6.2.2.1 m11) (fun m13 => gm_j (fun (s15 : Int32) => gm_j (fun (s17 : Int32) => some (Sum.inl (s15, s17, (s6.2.2.1 + (1 : Int32)), m13))) (fun j18 => if x12 ≤ s6.2.1 then j18 s6.2.1 else j18 x12)) (fun j16 => if x12 ≤ s6.2.1 then j16 s6.1 else j16 (((10 : Int32) * s3.2.2.1) + s6.2.2.1))) else none) else none) else none))) 5000 (s3.1, s3.2.1, (s3.2.2.1 + (1 : Int32)), s3.2.2.2)))) 5000 ((-5 : Int32), x2, (0 : Int32), m1)) else none
set_option maxHeartbeats 4000000 in
theorem c_X12_swap (a0 : Nat) (μ : gm_M) : gm_Call ({ cls := "GumBubbleModel", name := "swap", desc := "()I" } : Jvm.MethodName) prog_14_method_62_code 6 (some .int) 5 0 0 [.ref a0] μ (f_X12_swap a0 μ) := by
  refine gm_start PN_12 (Nat.le_of_ble_eq_true rfl) (fun res μe => ?_)
  unfold f_X12_swap
  show gm_A "GumBubbleModel" (gm_nm "swap") _ _ _ _ _ _ _ _ _ 0 [(0, .ref a0)] [] _ _
  refine gm_bipush (v := -5) d_X12_swap_0 (by decide) ?_
  refine gm_istore_n (L' := [(1, .int (-5 : Int32)), (0, .ref a0)]) d_X12_swap_2 rfl (Nat.le_of_ble_eq_true rfl) rfl ?_
  refine gm_aload_n d_X12_swap_3 rfl 1 rfl ?_
  refine gm_grd (fun g4 => ?_)
  refine gm_callV (k0 := 12) [] (c_X12_allHold a0 μ) g4 rfl B_X12_allHold gw_1090 gs_46 rfl rfl rfl d_X12_swap_4 (gm_kI (fun x2 m1 => ?_))
  refine gm_istore_n (L' := [(2, .int x2), (1, .int (-5 : Int32)), (0, .ref a0)]) d_X12_swap_7 rfl (Nat.le_of_ble_eq_true rfl) rfl ?_
  refine gm_iconst (v := 0) d_X12_swap_8 (by decide) ?_
  refine gm_istore_n (L' := [(3, .int (0 : Int32)), (2, .int x2), (1, .int (-5 : Int32)), (0, .ref a0)]) d_X12_swap_9 rfl (Nat.le_of_ble_eq_true rfl) rfl ?_
  refine gm_sub (L' := [(0, .ref a0), (1, .int (-5 : Int32)), (2, .int x2), (3, .int (0 : Int32))]) [3, 2, 1, 0] rfl ?_
  refine gm_lp (S := Int32 × Int32 × Int32 × gm_M) (fun _ => 0) (fun _ => 0) (fun s3 => s3.2.2.2) (fun s3 => [(0, .ref a0), (1, .int s3.1), (2, .int s3.2.1), (3, .int s3.2.2.1)]) (fun _ => []) (fun s3 => ?_) 5000 ((-5 : Int32), x2, (0 : Int32), m1)
  refine gm_iload_n d_X12_swap_10 rfl 3 rfl ?_
  refine gm_aload_n d_X12_swap_11 rfl 0 rfl ?_
  refine gm_getR F_12_s gw_890 d_X12_swap_12 (fun v4 _ => ?_)
  refine gm_bipush (v := 26) d_X12_swap_15 (by decide) ?_
  refine gm_iald d_X12_swap_17 (fun v5 _ => ?_)
  refine gm_icmp_ge (tgt := 101) d_X12_swap_18 (by decide) (fun h18 => ?_) (fun h18 => ?_)
  ·
    refine gm_iload_n d_X12_swap_101 rfl 1 rfl ?_
    exact gm_iret rfl d_X12_swap_102 (Nat.le_of_ble_eq_true rfl) (Nat.le_of_ble_eq_true rfl) (fun h => h)
  ·
    refine gm_iload_n d_X12_swap_21 rfl 3 rfl ?_
    refine gm_iconst (v := 1) d_X12_swap_22 (by decide) ?_
    refine gm_iadd d_X12_swap_23 ?_
    refine gm_istore (L' := [(4, .int (s3.2.2.1 + (1 : Int32))), (0, .ref a0), (1, .int s3.1), (2, .int s3.2.1), (3, .int s3.2.2.1)]) d_X12_swap_24 (Nat.le_of_ble_eq_true rfl) rfl ?_
    refine gm_sub (L' := [(0, .ref a0), (1, .int s3.1), (2, .int s3.2.1), (3, .int s3.2.2.1), (4, .int (s3.2.2.1 + (1 : Int32)))]) [1, 2, 3, 4, 0] rfl ?_
    refine gm_lp (S := Int32 × Int32 × Int32 × gm_M) (fun _ => 0) (fun _ => 0) (fun s6 => s6.2.2.2) (fun s6 => [(0, .ref a0), (1, .int s6.1), (2, .int s6.2.1), (3, .int s3.2.2.1), (4, .int s6.2.2.1)]) (fun _ => []) (fun s6 => ?_) 5000 (s3.1, s3.2.1, (s3.2.2.1 + (1 : Int32)), s3.2.2.2)
    refine gm_iload d_X12_swap_26 4 rfl ?_
    refine gm_aload_n d_X12_swap_28 rfl 0 rfl ?_
    refine gm_getR F_12_s gw_890 d_X12_swap_29 (fun v7 _ => ?_)
    refine gm_bipush (v := 26) d_X12_swap_32 (by decide) ?_
    refine gm_iald d_X12_swap_34 (fun v8 _ => ?_)
    refine gm_icmp_ge (tgt := 95) d_X12_swap_35 (by decide) (fun h35 => ?_) (fun h35 => ?_)
    ·
      refine gm_iinc (v := s3.2.2.1 + (1 : Int32)) (L' := [(3, .int (s3.2.2.1 + (1 : Int32))), (0, .ref a0), (1, .int s6.1), (2, .int s6.2.1), (4, .int s6.2.2.1)]) d_X12_swap_95 3 rfl rfl (Nat.le_of_ble_eq_true rfl) rfl ?_
      refine gm_goto (tgt := 10) d_X12_swap_98 (by decide) ?_
      refine gm_sub (L' := [(0, .ref a0), (1, .int s6.1), (2, .int s6.2.1), (3, .int (s3.2.2.1 + (1 : Int32)))]) [1, 2, 3, 0] rfl ?_
      exact gm_back (fun h => h)
    ·
      refine gm_aload_n d_X12_swap_38 rfl 0 rfl ?_
      refine gm_iload_n d_X12_swap_39 rfl 3 rfl ?_
      refine gm_iload d_X12_swap_40 4 rfl ?_
      refine gm_grd (fun g42 => ?_)
      refine gm_callV (k0 := 12) [.int s3.2.2.1, .int s6.2.2.1] (c_X12_swaps a0 s3.2.2.1 s6.2.2.1 s6.2.2.2) g42 rfl B_X12_swaps gw_1198 gs_57 rfl rfl rfl d_X12_swap_42 (gm_kV (fun m9 => ?_))
      refine gm_aload_n d_X12_swap_45 rfl 0 rfl ?_
      refine gm_grd (fun g46 => ?_)
      refine gm_callV (k0 := 12) [] (c_X12_allHold a0 m9) g46 rfl B_X12_allHold gw_1090 gs_46 rfl rfl rfl d_X12_swap_46 (gm_kI (fun x12 m11 => ?_))
      refine gm_istore (L' := [(5, .int x12), (0, .ref a0), (1, .int s6.1), (2, .int s6.2.1), (3, .int s3.2.2.1), (4, .int s6.2.2.1)]) d_X12_swap_49 (Nat.le_of_ble_eq_true rfl) rfl ?_
      refine gm_aload_n d_X12_swap_51 rfl 1 rfl ?_
      refine gm_iload_n d_X12_swap_52 rfl 4 rfl ?_
      refine gm_iload d_X12_swap_53 5 rfl ?_
      refine gm_grd (fun g55 => ?_)
      refine gm_callV (k0 := 12) [.int s3.2.2.1, .int s6.2.2.1] (c_X12_swaps a0 s3.2.2.1 s6.2.2.1 m11) g55 rfl B_X12_swaps gw_1198 gs_57 rfl rfl rfl d_X12_swap_55 (gm_kV (fun m13 => ?_))
      refine gm_iload d_X12_swap_58 0 rfl ?_
      refine gm_iload_n d_X12_swap_60 rfl 3 rfl ?_
      refine gm_join (S := Int32) (pj := 75) (kj := 0) (nj := 0) (fun s15 => m13) (fun s15 => [(0, .ref a0), (1, .int s6.1), (2, .int s6.2.1), (3, .int s3.2.2.1), (4, .int s6.2.2.1), (5, .int x12)]) (fun s15 => [.int s15]) (fun s15 => ?_) (fun j16 hj16 => ?_)
      ·
        refine gm_istore_n (L' := [(1, .int s15), (0, .ref a0), (2, .int s6.2.1), (3, .int s3.2.2.1), (4, .int s6.2.2.1), (5, .int x12)]) d_X12_swap_75 rfl (Nat.le_of_ble_eq_true rfl) rfl ?_
        refine gm_iload d_X12_swap_76 5 rfl ?_
        refine gm_iload_n d_X12_swap_78 rfl 2 rfl ?_
        refine gm_join (S := Int32) (pj := 88) (kj := 0) (nj := 0) (fun s17 => m13) (fun s17 => [(0, .ref a0), (1, .int s15), (2, .int s6.2.1), (3, .int s3.2.2.1), (4, .int s6.2.2.1), (5, .int x12)]) (fun s17 => [.int s17]) (fun s17 => ?_) (fun j18 hj18 => ?_)
        ·
          refine gm_istore_n (L' := [(2, .int s17), (0, .ref a0), (1, .int s15), (3, .int s3.2.2.1), (4, .int s6.2.2.1), (5, .int x12)]) d_X12_swap_88 rfl (Nat.le_of_ble_eq_true rfl) rfl ?_
          refine gm_iinc (v := s6.2.2.1 + (1 : Int32)) (L' := [(4, .int (s6.2.2.1 + (1 : Int32))), (2, .int s17), (0, .ref a0), (1, .int s15), (3, .int s3.2.2.1), (5, .int x12)]) d_X12_swap_89 4 rfl rfl (Nat.le_of_ble_eq_true rfl) rfl ?_
          refine gm_goto (tgt := 26) d_X12_swap_92 (by decide) ?_
          refine gm_sub (L' := [(0, .ref a0), (1, .int s15), (2, .int s17), (3, .int s3.2.2.1), (4, .int (s6.2.2.1 + (1 : Int32)))]) [2, 3, 1, 4, 0] rfl ?_
          exact gm_back (fun h => h)
        ·
          refine gm_icmp_le (tgt := 87) d_X12_swap_79 (by decide) (fun h79 => ?_) (fun h79 => ?_)
          ·
            refine gm_iload_n d_X12_swap_87 rfl 2 rfl ?_
            refine gm_sub (L' := [(0, .ref a0), (1, .int s15), (2, .int s6.2.1), (3, .int s3.2.2.1), (4, .int s6.2.2.1), (5, .int x12)]) [1, 0, 2, 3, 4, 5] rfl ?_
            exact hj18 s6.2.1
          ·
            refine gm_iload d_X12_swap_82 5 rfl ?_
            refine gm_goto (tgt := 88) d_X12_swap_84 (by decide) ?_
            refine gm_sub (L' := [(0, .ref a0), (1, .int s15), (2, .int s6.2.1), (3, .int s3.2.2.1), (4, .int s6.2.2.1), (5, .int x12)]) [1, 0, 2, 3, 4, 5] rfl ?_
            exact hj18 x12
      ·
        refine gm_icmp_le (tgt := 74) d_X12_swap_61 (by decide) (fun h61 => ?_) (fun h61 => ?_)
        ·
          refine gm_iload_n d_X12_swap_74 rfl 2 rfl ?_
          refine gm_sub (L' := [(0, .ref a0), (1, .int s6.1), (2, .int s6.2.1), (3, .int s3.2.2.1), (4, .int s6.2.2.1), (5, .int x12)]) [1, 2, 3, 4, 5, 0] rfl ?_
          exact hj16 s6.1
        ·
          refine gm_bipush (v := 10) d_X12_swap_64 (by decide) ?_
          refine gm_iload_n d_X12_swap_66 rfl 4 rfl ?_
          refine gm_imul d_X12_swap_67 ?_
          refine gm_iload d_X12_swap_68 5 rfl ?_
          refine gm_iadd d_X12_swap_70 ?_
          refine gm_goto (tgt := 75) d_X12_swap_71 (by decide) ?_
          refine gm_sub (L' := [(0, .ref a0), (1, .int s6.1), (2, .int s6.2.1), (3, .int s3.2.2.1), (4, .int s6.2.2.1), (5, .int x12)]) [1, 2, 3, 4, 5, 0] rfl ?_
          exact hj16 (((10 : Int32) * s3.2.2.1) + s6.2.2.1)
theorem d_X12_told_0 : decode prog_14_method_36_code 0 = .ok (.iload_n 1, 1) := ge_iload_n_1 (by decide +kernel)
theorem d_X12_told_1 : decode prog_14_method_36_code 1 = .ok (.tableswitch 66 0 4 #[35, 42, 51, 56, 61], 35) := by decide +kernel
theorem d_X12_told_36 : decode prog_14_method_36_code 36 = .ok (.aload_n 0, 1) := ge_aload_n_0 (by decide +kernel)
theorem d_X12_told_37 : decode prog_14_method_36_code 37 = .ok (.getfield 9, 3) := ge_getfield (by decide +kernel)
theorem d_X12_told_40 : decode prog_14_method_36_code 40 = .ok (.iconst 0, 1) := ge_iconst_0 (by decide +kernel)
theorem d_X12_told_41 : decode prog_14_method_36_code 41 = .ok (.iaload, 1) := ge_iaload (by decide +kernel)
theorem d_X12_told_42 : decode prog_14_method_36_code 42 = .ok (.ireturn, 1) := ge_ireturn (by decide +kernel)
theorem d_X12_told_43 : decode prog_14_method_36_code 43 = .ok (.aload_n 0, 1) := ge_aload_n_0 (by decide +kernel)
theorem d_X12_told_44 : decode prog_14_method_36_code 44 = .ok (.sipush 210, 3) := ge_sipush (by decide +kernel)
theorem d_X12_told_47 : decode prog_14_method_36_code 47 = .ok (.iconst 0, 1) := ge_iconst_0 (by decide +kernel)
theorem d_X12_told_48 : decode prog_14_method_36_code 48 = .ok (.invokevirtual 129, 3) := ge_invokevirtual (by decide +kernel)
theorem d_X12_told_51 : decode prog_14_method_36_code 51 = .ok (.ireturn, 1) := ge_ireturn (by decide +kernel)
theorem d_X12_told_52 : decode prog_14_method_36_code 52 = .ok (.aload_n 0, 1) := ge_aload_n_0 (by decide +kernel)
theorem d_X12_told_53 : decode prog_14_method_36_code 53 = .ok (.invokevirtual 151, 3) := ge_invokevirtual (by decide +kernel)
theorem d_X12_told_56 : decode prog_14_method_36_code 56 = .ok (.ireturn, 1) := ge_ireturn (by decide +kernel)
theorem d_X12_told_57 : decode prog_14_method_36_code 57 = .ok (.aload_n 0, 1) := ge_aload_n_0 (by decide +kernel)
theorem d_X12_told_58 : decode prog_14_method_36_code 58 = .ok (.invokevirtual 164, 3) := ge_invokevirtual (by decide +kernel)
theorem d_X12_told_61 : decode prog_14_method_36_code 61 = .ok (.ireturn, 1) := ge_ireturn (by decide +kernel)
theorem d_X12_told_62 : decode prog_14_method_36_code 62 = .ok (.aload_n 0, 1) := ge_aload_n_0 (by decide +kernel)
theorem d_X12_told_63 : decode prog_14_method_36_code 63 = .ok (.invokevirtual 167, 3) := ge_invokevirtual (by decide +kernel)
theorem d_X12_told_66 : decode prog_14_method_36_code 66 = .ok (.ireturn, 1) := ge_ireturn (by decide +kernel)
theorem d_X12_told_67 : decode prog_14_method_36_code 67 = .ok (.iconst (-1), 1) := ge_iconst_m1_ (by decide +kernel)
theorem d_X12_told_68 : decode prog_14_method_36_code 68 = .ok (.ireturn, 1) := ge_ireturn (by decide +kernel)
def f_X12_told (a0 : Nat) (a1 : Int32) (μ : gm_M) : Option (Option Value × gm_M) := if a1 = 0 then gm_gR μ [17] a0 1 (fun v1 => gm_aI μ v1 (0 : Int32) (fun v2 => some (some (.int v2), μ))) else if a1 = 1 then if gm_tag μ a0 = 17 then gm_bI (f_X12_tellsOf a0 (210 : Int32) (0 : Int32) μ) (fun x4 m3 => some (some (.int x4), m3)) else none else if a1 = 2 then if gm_tag μ a0 = 17 then gm_bI (f_X12_sweetNow a0 μ) (fun x6 m5 => some (some (.int x6), m5)) else none else if a1 = 3 then if gm_tag μ a0 = 17 then gm_bI (f_X12_allHold a0 μ) (fun x8 m7 => some (some (.int x8), m7)) else none else if a1 = 4 then if gm_tag μ a0 = 17 then gm_bI (f_X12_bubbles a0 μ) (fun x10 m9 => some (some (.int x10), m9)) else none else some (some (.int (-1 : Int32)), μ)
set_option maxHeartbeats 4000000 in
theorem c_X12_told (a0 : Nat) (a1 : Int32) (μ : gm_M) : gm_Call ({ cls := "GumBubbleModel", name := "told", desc := "(I)I" } : Jvm.MethodName) prog_14_method_36_code 2 (some .int) 5 0 0 [.ref a0, .int a1] μ (f_X12_told a0 a1 μ) := by
  refine gm_start PN_12 (Nat.le_of_ble_eq_true rfl) (fun res μe => ?_)
  unfold f_X12_told
  show gm_A "GumBubbleModel" (gm_nm "told") _ _ _ _ _ _ _ _ _ 0 [(0, .ref a0), (1, .int a1)] [] _ _
  refine gm_iload_n d_X12_told_0 rfl 1 rfl ?_
  refine gm_ite (P := a1 = 0) (fun h1_0 => ?_) (fun h1_0 => ?_)
  ·
    refine gm_swIn (v := 0) (off := 35) (tgt := 36) d_X12_told_1 (by rw [h1_0] <;> rfl) (by decide) (by decide) (by decide) (by decide) ?_
    refine gm_aload_n d_X12_told_36 rfl 0 rfl ?_
    refine gm_getR F_12_s gw_890 d_X12_told_37 (fun v1 _ => ?_)
    refine gm_iconst (v := 0) d_X12_told_40 (by decide) ?_
    refine gm_iald d_X12_told_41 (fun v2 _ => ?_)
    exact gm_iret rfl d_X12_told_42 (Nat.le_of_ble_eq_true rfl) (Nat.le_of_ble_eq_true rfl) (fun h => h)
  ·
    refine gm_ite (P := a1 = 1) (fun h1_1 => ?_) (fun h1_1 => ?_)
    ·
      refine gm_swIn (v := 1) (off := 42) (tgt := 43) d_X12_told_1 (by rw [h1_1] <;> rfl) (by decide) (by decide) (by decide) (by decide) ?_
      refine gm_aload_n d_X12_told_43 rfl 0 rfl ?_
      refine gm_sipush (v := 210) d_X12_told_44 (by decide) ?_
      refine gm_iconst (v := 0) d_X12_told_47 (by decide) ?_
      refine gm_grd (fun g48 => ?_)
      refine gm_callV (k0 := 12) [.int (210 : Int32), .int (0 : Int32)] (c_X12_tellsOf a0 (210 : Int32) (0 : Int32) μ) g48 rfl B_X12_tellsOf gw_1039 gs_39 rfl rfl rfl d_X12_told_48 (gm_kI (fun x4 m3 => ?_))
      exact gm_iret rfl d_X12_told_51 (Nat.le_of_ble_eq_true rfl) (Nat.le_of_ble_eq_true rfl) (fun h => h)
    ·
      refine gm_ite (P := a1 = 2) (fun h1_2 => ?_) (fun h1_2 => ?_)
      ·
        refine gm_swIn (v := 2) (off := 51) (tgt := 52) d_X12_told_1 (by rw [h1_2] <;> rfl) (by decide) (by decide) (by decide) (by decide) ?_
        refine gm_aload_n d_X12_told_52 rfl 0 rfl ?_
        refine gm_grd (fun g53 => ?_)
        refine gm_callV (k0 := 12) [] (c_X12_sweetNow a0 μ) g53 rfl B_X12_sweetNow gw_1035 gs_38 rfl rfl rfl d_X12_told_53 (gm_kI (fun x6 m5 => ?_))
        exact gm_iret rfl d_X12_told_56 (Nat.le_of_ble_eq_true rfl) (Nat.le_of_ble_eq_true rfl) (fun h => h)
      ·
        refine gm_ite (P := a1 = 3) (fun h1_3 => ?_) (fun h1_3 => ?_)
        ·
          refine gm_swIn (v := 3) (off := 56) (tgt := 57) d_X12_told_1 (by rw [h1_3] <;> rfl) (by decide) (by decide) (by decide) (by decide) ?_
          refine gm_aload_n d_X12_told_57 rfl 0 rfl ?_
          refine gm_grd (fun g58 => ?_)
          refine gm_callV (k0 := 12) [] (c_X12_allHold a0 μ) g58 rfl B_X12_allHold gw_1090 gs_46 rfl rfl rfl d_X12_told_58 (gm_kI (fun x8 m7 => ?_))
          exact gm_iret rfl d_X12_told_61 (Nat.le_of_ble_eq_true rfl) (Nat.le_of_ble_eq_true rfl) (fun h => h)
        ·
          refine gm_ite (P := a1 = 4) (fun h1_4 => ?_) (fun h1_4 => ?_)
          ·
            refine gm_swIn (v := 4) (off := 61) (tgt := 62) d_X12_told_1 (by rw [h1_4] <;> rfl) (by decide) (by decide) (by decide) (by decide) ?_
            refine gm_aload_n d_X12_told_62 rfl 0 rfl ?_
            refine gm_grd (fun g63 => ?_)
            refine gm_callV (k0 := 12) [] (c_X12_bubbles a0 μ) g63 rfl B_X12_bubbles gw_1094 gs_47 rfl rfl rfl d_X12_told_63 (gm_kI (fun x10 m9 => ?_))
            exact gm_iret rfl d_X12_told_66 (Nat.le_of_ble_eq_true rfl) (Nat.le_of_ble_eq_true rfl) (fun h => h)
          ·
            refine gm_swOut (tgt := 67) d_X12_told_1 (by have g0 := lv_neT h1_0 (show (0 : Int32).toInt = 0 from rfl); have g1 := lv_neT h1_1 (show (1 : Int32).toInt = 1 from rfl); have g2 := lv_neT h1_2 (show (2 : Int32).toInt = 2 from rfl); have g3 := lv_neT h1_3 (show (3 : Int32).toInt = 3 from rfl); have g4 := lv_neT h1_4 (show (4 : Int32).toInt = 4 from rfl); omega) (by decide) ?_
            refine gm_iconst (v := -1) d_X12_told_67 (by decide) ?_
            exact gm_iret rfl d_X12_told_68 (Nat.le_of_ble_eq_true rfl) (Nat.le_of_ble_eq_true rfl) (fun h => h)
theorem d_X12_trace_0 : decode prog_14_method_88_code 0 = .ok (.iload_n 1, 1) := ge_iload_n_1 (by decide +kernel)
theorem d_X12_trace_1 : decode prog_14_method_88_code 1 = .ok (.iconst 0, 1) := ge_iconst_0 (by decide +kernel)
theorem d_X12_trace_2 : decode prog_14_method_88_code 2 = .ok (.aload_n 0, 1) := ge_aload_n_0 (by decide +kernel)
theorem d_X12_trace_3 : decode prog_14_method_88_code 3 = .ok (.getfield 247, 3) := ge_getfield (by decide +kernel)
theorem d_X12_trace_6 : decode prog_14_method_88_code 6 = .ok (.bipush 20, 2) := ge_bipush (by decide +kernel)
theorem d_X12_trace_8 : decode prog_14_method_88_code 8 = .ok (.if_icmp .ge 10, 3) := ge_if_icmp_ge (by decide +kernel)
theorem d_X12_trace_11 : decode prog_14_method_88_code 11 = .ok (.aload_n 0, 1) := ge_aload_n_0 (by decide +kernel)
theorem d_X12_trace_12 : decode prog_14_method_88_code 12 = .ok (.getfield 247, 3) := ge_getfield (by decide +kernel)
theorem d_X12_trace_15 : decode prog_14_method_88_code 15 = .ok (.goto 5, 3) := ge_goto (by decide +kernel)
theorem d_X12_trace_18 : decode prog_14_method_88_code 18 = .ok (.bipush 20, 2) := ge_bipush (by decide +kernel)
theorem d_X12_trace_20 : decode prog_14_method_88_code 20 = .ok (.iconst 1, 1) := ge_iconst_1 (by decide +kernel)
theorem d_X12_trace_21 : decode prog_14_method_88_code 21 = .ok (.isub, 1) := ge_isub (by decide +kernel)
theorem d_X12_trace_22 : decode prog_14_method_88_code 22 = .ok (.invokestatic 44, 3) := ge_invokestatic (by decide +kernel)
theorem d_X12_trace_25 : decode prog_14_method_88_code 25 = .ok (.ifCond .eq 12, 3) := ge_ifCond_eq (by decide +kernel)
theorem d_X12_trace_28 : decode prog_14_method_88_code 28 = .ok (.aload_n 0, 1) := ge_aload_n_0 (by decide +kernel)
theorem d_X12_trace_29 : decode prog_14_method_88_code 29 = .ok (.getfield 37, 3) := ge_getfield (by decide +kernel)
theorem d_X12_trace_32 : decode prog_14_method_88_code 32 = .ok (.iload_n 1, 1) := ge_iload_n_1 (by decide +kernel)
theorem d_X12_trace_33 : decode prog_14_method_88_code 33 = .ok (.iaload, 1) := ge_iaload (by decide +kernel)
theorem d_X12_trace_34 : decode prog_14_method_88_code 34 = .ok (.goto 4, 3) := ge_goto (by decide +kernel)
theorem d_X12_trace_37 : decode prog_14_method_88_code 37 = .ok (.iconst (-1), 1) := ge_iconst_m1_ (by decide +kernel)
theorem d_X12_trace_38 : decode prog_14_method_88_code 38 = .ok (.ireturn, 1) := ge_ireturn (by decide +kernel)
def f_X12_trace (a0 : Nat) (a1 : Int32) (μ : gm_M) : Option (Option Value × gm_M) := gm_gI μ [17] a0 19 (fun v1 => gm_j (fun (s2 : Int32) => gm_bI (f_X12_in a1 (0 : Int32) (s2 - (1 : Int32)) μ) (fun x5 m4 => if x5 = 0 then some (some (.int (-1 : Int32)), m4) else gm_gR m4 [17] a0 18 (fun v6 => gm_aI m4 v6 a1 (fun v7 => some (some (.int v7), m4))))) (fun j3 => if (20 : Int32) ≤ v1 then j3 (20 : Int32) else gm_gI μ [17] a0 19 (fun v8 => j3 v8)))
set_option maxHeartbeats 4000000 in
theorem c_X12_trace (a0 : Nat) (a1 : Int32) (μ : gm_M) : gm_Call ({ cls := "GumBubbleModel", name := "trace", desc := "(I)I" } : Jvm.MethodName) prog_14_method_88_code 2 (some .int) 1 0 0 [.ref a0, .int a1] μ (f_X12_trace a0 a1 μ) := by
  refine gm_start PN_12 (Nat.le_of_ble_eq_true rfl) (fun res μe => ?_)
  unfold f_X12_trace
  show gm_A "GumBubbleModel" (gm_nm "trace") _ _ _ _ _ _ _ _ _ 0 [(0, .ref a0), (1, .int a1)] [] _ _
  refine gm_iload_n d_X12_trace_0 rfl 1 rfl ?_
  refine gm_iconst (v := 0) d_X12_trace_1 (by decide) ?_
  refine gm_aload_n d_X12_trace_2 rfl 0 rfl ?_
  refine gm_getI F_12_ran gw_908 d_X12_trace_3 (fun v1 _ => ?_)
  refine gm_bipush (v := 20) d_X12_trace_6 (by decide) ?_
  refine gm_join (S := Int32) (pj := 20) (kj := 0) (nj := 0) (fun s2 => μ) (fun s2 => [(0, .ref a0), (1, .int a1)]) (fun s2 => [.int s2, .int (0 : Int32), .int a1]) (fun s2 => ?_) (fun j3 hj3 => ?_)
  ·
    refine gm_iconst (v := 1) d_X12_trace_20 (by decide) ?_
    refine gm_isub d_X12_trace_21 ?_
    refine gm_callS [.int a1, .int (0 : Int32), .int (s2 - (1 : Int32))] (c_X12_in a1 (0 : Int32) (s2 - (1 : Int32)) μ) B_X12_in gw_964 rfl rfl rfl d_X12_trace_22 (gm_kI (fun x5 m4 => ?_))
    refine gm_if_eq (tgt := 37) d_X12_trace_25 (by decide) (fun h25 => ?_) (fun h25 => ?_)
    ·
      refine gm_iconst (v := -1) d_X12_trace_37 (by decide) ?_
      exact gm_iret rfl d_X12_trace_38 (Nat.le_of_ble_eq_true rfl) (Nat.le_of_ble_eq_true rfl) (fun h => h)
    ·
      refine gm_aload_n d_X12_trace_28 rfl 0 rfl ?_
      refine gm_getR F_12_bodies gw_907 d_X12_trace_29 (fun v6 _ => ?_)
      refine gm_iload_n d_X12_trace_32 rfl 1 rfl ?_
      refine gm_iald d_X12_trace_33 (fun v7 _ => ?_)
      refine gm_goto (tgt := 38) d_X12_trace_34 (by decide) ?_
      exact gm_iret rfl d_X12_trace_38 (Nat.le_of_ble_eq_true rfl) (Nat.le_of_ble_eq_true rfl) (fun h => h)
  ·
    refine gm_icmp_ge (tgt := 18) d_X12_trace_8 (by decide) (fun h8 => ?_) (fun h8 => ?_)
    ·
      refine gm_bipush (v := 20) d_X12_trace_18 (by decide) ?_
      exact hj3 (20 : Int32)
    ·
      refine gm_aload_n d_X12_trace_11 rfl 0 rfl ?_
      refine gm_getI F_12_ran gw_908 d_X12_trace_12 (fun v8 _ => ?_)
      refine gm_goto (tgt := 20) d_X12_trace_15 (by decide) ?_
      exact hj3 v8
theorem d_X12_undo_0 : decode prog_14_method_91_code 0 = .ok (.aload_n 0, 1) := ge_aload_n_0 (by decide +kernel)
theorem d_X12_undo_1 : decode prog_14_method_91_code 1 = .ok (.getfield 283, 3) := ge_getfield (by decide +kernel)
theorem d_X12_undo_4 : decode prog_14_method_91_code 4 = .ok (.ifCond .ne 6, 3) := ge_ifCond_ne (by decide +kernel)
theorem d_X12_undo_7 : decode prog_14_method_91_code 7 = .ok (.bipush (-3), 2) := ge_bipush (by decide +kernel)
theorem d_X12_undo_9 : decode prog_14_method_91_code 9 = .ok (.ireturn, 1) := ge_ireturn (by decide +kernel)
theorem d_X12_undo_10 : decode prog_14_method_91_code 10 = .ok (.iconst 0, 1) := ge_iconst_0 (by decide +kernel)
theorem d_X12_undo_11 : decode prog_14_method_91_code 11 = .ok (.istore_n 1, 1) := ge_istore_n_1 (by decide +kernel)
theorem d_X12_undo_12 : decode prog_14_method_91_code 12 = .ok (.iload_n 1, 1) := ge_iload_n_1 (by decide +kernel)
theorem d_X12_undo_13 : decode prog_14_method_91_code 13 = .ok (.sipush 925, 3) := ge_sipush (by decide +kernel)
theorem d_X12_undo_16 : decode prog_14_method_91_code 16 = .ok (.if_icmp .ge 21, 3) := ge_if_icmp_ge (by decide +kernel)
theorem d_X12_undo_19 : decode prog_14_method_91_code 19 = .ok (.aload_n 0, 1) := ge_aload_n_0 (by decide +kernel)
theorem d_X12_undo_20 : decode prog_14_method_91_code 20 = .ok (.getfield 9, 3) := ge_getfield (by decide +kernel)
theorem d_X12_undo_23 : decode prog_14_method_91_code 23 = .ok (.iload_n 1, 1) := ge_iload_n_1 (by decide +kernel)
theorem d_X12_undo_24 : decode prog_14_method_91_code 24 = .ok (.aload_n 0, 1) := ge_aload_n_0 (by decide +kernel)
theorem d_X12_undo_25 : decode prog_14_method_91_code 25 = .ok (.getfield 15, 3) := ge_getfield (by decide +kernel)
theorem d_X12_undo_28 : decode prog_14_method_91_code 28 = .ok (.iload_n 1, 1) := ge_iload_n_1 (by decide +kernel)
theorem d_X12_undo_29 : decode prog_14_method_91_code 29 = .ok (.iaload, 1) := ge_iaload (by decide +kernel)
theorem d_X12_undo_30 : decode prog_14_method_91_code 30 = .ok (.iastore, 1) := ge_iastore (by decide +kernel)
theorem d_X12_undo_31 : decode prog_14_method_91_code 31 = .ok (.iinc 1 1, 3) := ge_iinc (by decide +kernel)
theorem d_X12_undo_34 : decode prog_14_method_91_code 34 = .ok (.goto (-22), 3) := ge_goto (by decide +kernel)
theorem d_X12_undo_37 : decode prog_14_method_91_code 37 = .ok (.aload_n 0, 1) := ge_aload_n_0 (by decide +kernel)
theorem d_X12_undo_38 : decode prog_14_method_91_code 38 = .ok (.getfield 9, 3) := ge_getfield (by decide +kernel)
theorem d_X12_undo_41 : decode prog_14_method_91_code 41 = .ok (.bipush 26, 2) := ge_bipush (by decide +kernel)
theorem d_X12_undo_43 : decode prog_14_method_91_code 43 = .ok (.iaload, 1) := ge_iaload (by decide +kernel)
theorem d_X12_undo_44 : decode prog_14_method_91_code 44 = .ok (.ireturn, 1) := ge_ireturn (by decide +kernel)
def f_X12_undo (a0 : Nat) (μ : gm_M) : Option (Option Value × gm_M) := gm_gI μ [17] a0 4 (fun v1 => if v1 ≠ 0 then gm_loop (fun (s2 : Int32 × gm_M) => if (925 : Int32) ≤ s2.1 then gm_gR s2.2 [17] a0 1 (fun v3 => gm_aI s2.2 v3 (26 : Int32) (fun v4 => some (Sum.inr (some (.int v4), s2.2)))) else gm_gR s2.2 [17] a0 1 (fun v5 => gm_gR s2.2 [17] a0 2 (fun v6 => gm_aI s2.2 v6 s2.1 (fun v7 => gm_sI s2.2 v5 s2.1 v7 (fun m8 => some (Sum.inl ((s2.1 + (1 : Int32)), m8))))))) 5000 ((0 : Int32), μ) else some (some (.int (-3 : Int32)), μ))
set_option maxHeartbeats 4000000 in
theorem c_X12_undo (a0 : Nat) (μ : gm_M) : gm_Call ({ cls := "GumBubbleModel", name := "undo", desc := "()I" } : Jvm.MethodName) prog_14_method_91_code 2 (some .int) 0 0 0 [.ref a0] μ (f_X12_undo a0 μ) := by
  refine gm_start PN_12 (Nat.le_of_ble_eq_true rfl) (fun res μe => ?_)
  unfold f_X12_undo
  show gm_A "GumBubbleModel" (gm_nm "undo") _ _ _ _ _ _ _ _ _ 0 [(0, .ref a0)] [] _ _
  refine gm_aload_n d_X12_undo_0 rfl 0 rfl ?_
  refine gm_getI F_12_hasImage gw_893 d_X12_undo_1 (fun v1 _ => ?_)
  refine gm_if_ne (tgt := 10) d_X12_undo_4 (by decide) (fun h4 => ?_) (fun h4 => ?_)
  ·
    refine gm_iconst (v := 0) d_X12_undo_10 (by decide) ?_
    refine gm_istore_n (L' := [(1, .int (0 : Int32)), (0, .ref a0)]) d_X12_undo_11 rfl (Nat.le_of_ble_eq_true rfl) rfl ?_
    refine gm_sub (L' := [(0, .ref a0), (1, .int (0 : Int32))]) [1, 0] rfl ?_
    refine gm_lp (S := Int32 × gm_M) (fun _ => 0) (fun _ => 0) (fun s2 => s2.2) (fun s2 => [(0, .ref a0), (1, .int s2.1)]) (fun _ => []) (fun s2 => ?_) 5000 ((0 : Int32), μ)
    refine gm_iload_n d_X12_undo_12 rfl 1 rfl ?_
    refine gm_sipush (v := 925) d_X12_undo_13 (by decide) ?_
    refine gm_icmp_ge (tgt := 37) d_X12_undo_16 (by decide) (fun h16 => ?_) (fun h16 => ?_)
    ·
      refine gm_aload_n d_X12_undo_37 rfl 0 rfl ?_
      refine gm_getR F_12_s gw_890 d_X12_undo_38 (fun v3 _ => ?_)
      refine gm_bipush (v := 26) d_X12_undo_41 (by decide) ?_
      refine gm_iald d_X12_undo_43 (fun v4 _ => ?_)
      exact gm_iret rfl d_X12_undo_44 (Nat.le_of_ble_eq_true rfl) (Nat.le_of_ble_eq_true rfl) (fun h => h)
    ·
      refine gm_aload_n d_X12_undo_19 rfl 0 rfl ?_
      refine gm_getR F_12_s gw_890 d_X12_undo_20 (fun v5 _ => ?_)
      refine gm_iload_n d_X12_undo_23 rfl 1 rfl ?_
      refine gm_aload_n d_X12_undo_24 rfl 0 rfl ?_
      refine gm_getR F_12_image gw_891 d_X12_undo_25 (fun v6 _ => ?_)
      refine gm_iload_n d_X12_undo_28 rfl 1 rfl ?_
      refine gm_iald d_X12_undo_29 (fun v7 _ => ?_)
      refine gm_iast d_X12_undo_30 (fun m8 _ => ?_)
      refine gm_iinc (v := s2.1 + (1 : Int32)) (L' := [(1, .int (s2.1 + (1 : Int32))), (0, .ref a0)]) d_X12_undo_31 1 rfl rfl (Nat.le_of_ble_eq_true rfl) rfl ?_
      refine gm_goto (tgt := 12) d_X12_undo_34 (by decide) ?_
      refine gm_sub (L' := [(0, .ref a0), (1, .int (s2.1 + (1 : Int32)))]) [1, 0] rfl ?_
      exact gm_back (fun h => h)
  ·
    refine gm_bipush (v := -3) d_X12_undo_7 (by decide) ?_
    exact gm_iret rfl d_X12_undo_9 (Nat.le_of_ble_eq_true rfl) (Nat.le_of_ble_eq_true rfl) (fun h => h)
theorem d_X12_when_0 : decode prog_14_method_47_code 0 = .ok (.aload_n 0, 1) := ge_aload_n_0 (by decide +kernel)
theorem d_X12_when_1 : decode prog_14_method_47_code 1 = .ok (.iload_n 1, 1) := ge_iload_n_1 (by decide +kernel)
theorem d_X12_when_2 : decode prog_14_method_47_code 2 = .ok (.invokevirtual 154, 3) := ge_invokevirtual (by decide +kernel)
theorem d_X12_when_5 : decode prog_14_method_47_code 5 = .ok (.ifCond .eq 12, 3) := ge_ifCond_eq (by decide +kernel)
theorem d_X12_when_8 : decode prog_14_method_47_code 8 = .ok (.iload_n 2, 1) := ge_iload_n_2 (by decide +kernel)
theorem d_X12_when_9 : decode prog_14_method_47_code 9 = .ok (.iconst 0, 1) := ge_iconst_0 (by decide +kernel)
theorem d_X12_when_10 : decode prog_14_method_47_code 10 = .ok (.iconst 1, 1) := ge_iconst_1 (by decide +kernel)
theorem d_X12_when_11 : decode prog_14_method_47_code 11 = .ok (.invokestatic 44, 3) := ge_invokestatic (by decide +kernel)
theorem d_X12_when_14 : decode prog_14_method_47_code 14 = .ok (.ifCond .ne 5, 3) := ge_ifCond_ne (by decide +kernel)
theorem d_X12_when_17 : decode prog_14_method_47_code 17 = .ok (.iconst (-1), 1) := ge_iconst_m1_ (by decide +kernel)
theorem d_X12_when_18 : decode prog_14_method_47_code 18 = .ok (.ireturn, 1) := ge_ireturn (by decide +kernel)
theorem d_X12_when_19 : decode prog_14_method_47_code 19 = .ok (.aload_n 0, 1) := ge_aload_n_0 (by decide +kernel)
theorem d_X12_when_20 : decode prog_14_method_47_code 20 = .ok (.invokevirtual 183, 3) := ge_invokevirtual (by decide +kernel)
theorem d_X12_when_23 : decode prog_14_method_47_code 23 = .ok (.aload_n 0, 1) := ge_aload_n_0 (by decide +kernel)
theorem d_X12_when_24 : decode prog_14_method_47_code 24 = .ok (.iload_n 1, 1) := ge_iload_n_1 (by decide +kernel)
theorem d_X12_when_25 : decode prog_14_method_47_code 25 = .ok (.invokevirtual 198, 3) := ge_invokevirtual (by decide +kernel)
theorem d_X12_when_28 : decode prog_14_method_47_code 28 = .ok (.iload_n 2, 1) := ge_iload_n_2 (by decide +kernel)
theorem d_X12_when_29 : decode prog_14_method_47_code 29 = .ok (.ifCond .ne 10, 3) := ge_ifCond_ne (by decide +kernel)
theorem d_X12_when_32 : decode prog_14_method_47_code 32 = .ok (.aload_n 0, 1) := ge_aload_n_0 (by decide +kernel)
theorem d_X12_when_33 : decode prog_14_method_47_code 33 = .ok (.getfield 189, 3) := ge_getfield (by decide +kernel)
theorem d_X12_when_36 : decode prog_14_method_47_code 36 = .ok (.goto 7, 3) := ge_goto (by decide +kernel)
theorem d_X12_when_39 : decode prog_14_method_47_code 39 = .ok (.aload_n 0, 1) := ge_aload_n_0 (by decide +kernel)
theorem d_X12_when_40 : decode prog_14_method_47_code 40 = .ok (.getfield 192, 3) := ge_getfield (by decide +kernel)
theorem d_X12_when_43 : decode prog_14_method_47_code 43 = .ok (.ireturn, 1) := ge_ireturn (by decide +kernel)
def f_X12_when (a0 : Nat) (a1 : Int32) (a2 : Int32) (μ : gm_M) : Option (Option Value × gm_M) := if gm_tag μ a0 = 17 then gm_bI (f_X12_isChild a0 a1 μ) (fun x2 m1 => if x2 = 0 then some (some (.int (-1 : Int32)), m1) else gm_bI (f_X12_in a2 (0 : Int32) (1 : Int32) m1) (fun x4 m3 => if x4 ≠ 0 then if gm_tag m3 a0 = 17 then gm_bV (f_X12_keeps a0 m3) (fun m5 => if gm_tag m5 a0 = 17 then gm_bV (f_X12_looksForWhen a0 a1 m5) (fun m7 => if a2 ≠ 0 then gm_gI m7 [17] a0 13 (fun v9 => some (some (.int v9), m7)) else gm_gI m7 [17] a0 12 (fun v10 => some (some (.int v10), m7))) else none) else none else some (some (.int (-1 : Int32)), m3))) else none
set_option maxHeartbeats 4000000 in
theorem c_X12_when (a0 : Nat) (a1 : Int32) (a2 : Int32) (μ : gm_M) : gm_Call ({ cls := "GumBubbleModel", name := "when", desc := "(II)I" } : Jvm.MethodName) prog_14_method_47_code 3 (some .int) 5 0 0 [.ref a0, .int a1, .int a2] μ (f_X12_when a0 a1 a2 μ) := by
  refine gm_start PN_12 (Nat.le_of_ble_eq_true rfl) (fun res μe => ?_)
  unfold f_X12_when
  show gm_A "GumBubbleModel" (gm_nm "when") _ _ _ _ _ _ _ _ _ 0 [(0, .ref a0), (1, .int a1), (2, .int a2)] [] _ _
  refine gm_aload_n d_X12_when_0 rfl 0 rfl ?_
  refine gm_iload_n d_X12_when_1 rfl 1 rfl ?_
  refine gm_grd (fun g2 => ?_)
  refine gm_callV (k0 := 12) [.int a1] (c_X12_isChild a0 a1 μ) g2 rfl B_X12_isChild gw_1047 gs_40 rfl rfl rfl d_X12_when_2 (gm_kI (fun x2 m1 => ?_))
  refine gm_if_eq (tgt := 17) d_X12_when_5 (by decide) (fun h5 => ?_) (fun h5 => ?_)
  ·
    refine gm_iconst (v := -1) d_X12_when_17 (by decide) ?_
    exact gm_iret rfl d_X12_when_18 (Nat.le_of_ble_eq_true rfl) (Nat.le_of_ble_eq_true rfl) (fun h => h)
  ·
    refine gm_iload_n d_X12_when_8 rfl 2 rfl ?_
    refine gm_iconst (v := 0) d_X12_when_9 (by decide) ?_
    refine gm_iconst (v := 1) d_X12_when_10 (by decide) ?_
    refine gm_callS [.int a2, .int (0 : Int32), .int (1 : Int32)] (c_X12_in a2 (0 : Int32) (1 : Int32) m1) B_X12_in gw_964 rfl rfl rfl d_X12_when_11 (gm_kI (fun x4 m3 => ?_))
    refine gm_if_ne (tgt := 19) d_X12_when_14 (by decide) (fun h14 => ?_) (fun h14 => ?_)
    ·
      refine gm_aload_n d_X12_when_19 rfl 0 rfl ?_
      refine gm_grd (fun g20 => ?_)
      refine gm_callV (k0 := 12) [] (c_X12_keeps a0 m3) g20 rfl B_X12_keeps gw_1126 gs_52 rfl rfl rfl d_X12_when_20 (gm_kV (fun m5 => ?_))
      refine gm_aload_n d_X12_when_23 rfl 0 rfl ?_
      refine gm_iload_n d_X12_when_24 rfl 1 rfl ?_
      refine gm_grd (fun g25 => ?_)
      refine gm_callV (k0 := 12) [.int a1] (c_X12_looksForWhen a0 a1 m5) g25 rfl B_X12_looksForWhen gw_1138 gs_54 rfl rfl rfl d_X12_when_25 (gm_kV (fun m7 => ?_))
      refine gm_iload_n d_X12_when_28 rfl 2 rfl ?_
      refine gm_if_ne (tgt := 39) d_X12_when_29 (by decide) (fun h29 => ?_) (fun h29 => ?_)
      ·
        refine gm_aload_n d_X12_when_39 rfl 0 rfl ?_
        refine gm_getI F_12_mostHeld gw_902 d_X12_when_40 (fun v9 _ => ?_)
        exact gm_iret rfl d_X12_when_43 (Nat.le_of_ble_eq_true rfl) (Nat.le_of_ble_eq_true rfl) (fun h => h)
      ·
        refine gm_aload_n d_X12_when_32 rfl 0 rfl ?_
        refine gm_getI F_12_bestWhen gw_901 d_X12_when_33 (fun v10 _ => ?_)
        refine gm_goto (tgt := 43) d_X12_when_36 (by decide) ?_
        exact gm_iret rfl d_X12_when_43 (Nat.le_of_ble_eq_true rfl) (Nat.le_of_ble_eq_true rfl) (fun h => h)
    ·
      refine gm_iconst (v := -1) d_X12_when_17 (by decide) ?_
      exact gm_iret rfl d_X12_when_18 (Nat.le_of_ble_eq_true rfl) (Nat.le_of_ble_eq_true rfl) (fun h => h)
theorem d_X12_who_0 : decode prog_14_method_69_code 0 = .ok (.iload_n 1, 1) := ge_iload_n_1 (by decide +kernel)
theorem d_X12_who_1 : decode prog_14_method_69_code 1 = .ok (.iconst 0, 1) := ge_iconst_0 (by decide +kernel)
theorem d_X12_who_2 : decode prog_14_method_69_code 2 = .ok (.sipush 999, 3) := ge_sipush (by decide +kernel)
theorem d_X12_who_5 : decode prog_14_method_69_code 5 = .ok (.invokestatic 44, 3) := ge_invokestatic (by decide +kernel)
theorem d_X12_who_8 : decode prog_14_method_69_code 8 = .ok (.ifCond .eq 13, 3) := ge_ifCond_eq (by decide +kernel)
theorem d_X12_who_11 : decode prog_14_method_69_code 11 = .ok (.iload_n 2, 1) := ge_iload_n_2 (by decide +kernel)
theorem d_X12_who_12 : decode prog_14_method_69_code 12 = .ok (.iconst 0, 1) := ge_iconst_0 (by decide +kernel)
theorem d_X12_who_13 : decode prog_14_method_69_code 13 = .ok (.bipush 40, 2) := ge_bipush (by decide +kernel)
theorem d_X12_who_15 : decode prog_14_method_69_code 15 = .ok (.invokestatic 44, 3) := ge_invokestatic (by decide +kernel)
theorem d_X12_who_18 : decode prog_14_method_69_code 18 = .ok (.ifCond .ne 6, 3) := ge_ifCond_ne (by decide +kernel)
theorem d_X12_who_21 : decode prog_14_method_69_code 21 = .ok (.bipush (-2), 2) := ge_bipush (by decide +kernel)
theorem d_X12_who_23 : decode prog_14_method_69_code 23 = .ok (.ireturn, 1) := ge_ireturn (by decide +kernel)
theorem d_X12_who_24 : decode prog_14_method_69_code 24 = .ok (.aload_n 0, 1) := ge_aload_n_0 (by decide +kernel)
theorem d_X12_who_25 : decode prog_14_method_69_code 25 = .ok (.invokevirtual 183, 3) := ge_invokevirtual (by decide +kernel)
theorem d_X12_who_28 : decode prog_14_method_69_code 28 = .ok (.aload_n 0, 1) := ge_aload_n_0 (by decide +kernel)
theorem d_X12_who_29 : decode prog_14_method_69_code 29 = .ok (.iload_n 2, 1) := ge_iload_n_2 (by decide +kernel)
theorem d_X12_who_30 : decode prog_14_method_69_code 30 = .ok (.invokevirtual 180, 3) := ge_invokevirtual (by decide +kernel)
theorem d_X12_who_33 : decode prog_14_method_69_code 33 = .ok (.iconst 0, 1) := ge_iconst_0 (by decide +kernel)
theorem d_X12_who_34 : decode prog_14_method_69_code 34 = .ok (.istore_n 3, 1) := ge_istore_n_3 (by decide +kernel)
theorem d_X12_who_35 : decode prog_14_method_69_code 35 = .ok (.iconst 0, 1) := ge_iconst_0 (by decide +kernel)
theorem d_X12_who_36 : decode prog_14_method_69_code 36 = .ok (.istore 4, 2) := ge_istore (by decide +kernel)
theorem d_X12_who_38 : decode prog_14_method_69_code 38 = .ok (.iload 4, 2) := ge_iload (by decide +kernel)
theorem d_X12_who_40 : decode prog_14_method_69_code 40 = .ok (.aload_n 0, 1) := ge_aload_n_0 (by decide +kernel)
theorem d_X12_who_41 : decode prog_14_method_69_code 41 = .ok (.getfield 9, 3) := ge_getfield (by decide +kernel)
theorem d_X12_who_44 : decode prog_14_method_69_code 44 = .ok (.bipush 26, 2) := ge_bipush (by decide +kernel)
theorem d_X12_who_46 : decode prog_14_method_69_code 46 = .ok (.iaload, 1) := ge_iaload (by decide +kernel)
theorem d_X12_who_47 : decode prog_14_method_69_code 47 = .ok (.if_icmp .ge 30, 3) := ge_if_icmp_ge (by decide +kernel)
theorem d_X12_who_50 : decode prog_14_method_69_code 50 = .ok (.iload_n 3, 1) := ge_iload_n_3 (by decide +kernel)
theorem d_X12_who_51 : decode prog_14_method_69_code 51 = .ok (.aload_n 0, 1) := ge_aload_n_0 (by decide +kernel)
theorem d_X12_who_52 : decode prog_14_method_69_code 52 = .ok (.iload 4, 2) := ge_iload (by decide +kernel)
theorem d_X12_who_54 : decode prog_14_method_69_code 54 = .ok (.invokevirtual 148, 3) := ge_invokevirtual (by decide +kernel)
theorem d_X12_who_57 : decode prog_14_method_69_code 57 = .ok (.iload_n 1, 1) := ge_iload_n_1 (by decide +kernel)
theorem d_X12_who_58 : decode prog_14_method_69_code 58 = .ok (.if_icmp .ne 10, 3) := ge_if_icmp_ne (by decide +kernel)
theorem d_X12_who_61 : decode prog_14_method_69_code 61 = .ok (.iconst 1, 1) := ge_iconst_1 (by decide +kernel)
theorem d_X12_who_62 : decode prog_14_method_69_code 62 = .ok (.iload 4, 2) := ge_iload (by decide +kernel)
theorem d_X12_who_64 : decode prog_14_method_69_code 64 = .ok (.ishl, 1) := ge_ishl (by decide +kernel)
theorem d_X12_who_65 : decode prog_14_method_69_code 65 = .ok (.goto 4, 3) := ge_goto (by decide +kernel)
theorem d_X12_who_68 : decode prog_14_method_69_code 68 = .ok (.iconst 0, 1) := ge_iconst_0 (by decide +kernel)
theorem d_X12_who_69 : decode prog_14_method_69_code 69 = .ok (.ior, 1) := ge_ior (by decide +kernel)
theorem d_X12_who_70 : decode prog_14_method_69_code 70 = .ok (.istore_n 3, 1) := ge_istore_n_3 (by decide +kernel)
theorem d_X12_who_71 : decode prog_14_method_69_code 71 = .ok (.iinc 4 1, 3) := ge_iinc (by decide +kernel)
theorem d_X12_who_74 : decode prog_14_method_69_code 74 = .ok (.goto (-36), 3) := ge_goto (by decide +kernel)
theorem d_X12_who_77 : decode prog_14_method_69_code 77 = .ok (.aload_n 0, 1) := ge_aload_n_0 (by decide +kernel)
theorem d_X12_who_78 : decode prog_14_method_69_code 78 = .ok (.invokevirtual 186, 3) := ge_invokevirtual (by decide +kernel)
theorem d_X12_who_81 : decode prog_14_method_69_code 81 = .ok (.iload_n 3, 1) := ge_iload_n_3 (by decide +kernel)
theorem d_X12_who_82 : decode prog_14_method_69_code 82 = .ok (.ireturn, 1) := ge_ireturn (by decide +kernel)
def f_X12_who (a0 : Nat) (a1 : Int32) (a2 : Int32) (μ : gm_M) : Option (Option Value × gm_M) := gm_bI (f_X12_in a1 (0 : Int32) (999 : Int32) μ) (fun x2 m1 => if x2 = 0 then some (some (.int (-2 : Int32)), m1) else gm_bI (f_X12_in a2 (0 : Int32) (40 : Int32) m1) (fun x4 m3 => if x4 ≠ 0 then if gm_tag m3 a0 = 17 then gm_bV (f_X12_keeps a0 m3) (fun m5 => if gm_tag m5 a0 = 17 then gm_bV (f_X12_goesOn a0 a2 m5) (fun m7 => gm_loop (fun (s9 : Int32 × Int32 × gm_M) => gm_gR s9.2.2 [17] a0 1 (fun v10 => gm_aI s9.2.2 v10 (26 : Int32) (fun v11 => if v11 ≤ s9.2.1 then if gm_tag s9.2.2 a0 = 17 then gm_bV (f_X12_goesBack a0 s9.2.2) (fun m12 => some (Sum.inr (some (.int s9.1), m12))) else none else if gm_tag s9.2.2 a0 = 17 then gm_bI (f_X12_holdsOf a0 s9.2.1 s9.2.2) (fun x15 m14 => gm_j (fun (s16 : Int32) => some (Sum.inl ((s9.1 ||| s16), (s9.2.1 + (1 : Int32)), m14))) (fun j17 => if x15 ≠ a1 then j17 (0 : Int32) else j17 ((1 : Int32) <<< (s9.2.1 &&& 31)))) else none))) 5000 ((0 : Int32), (0 : Int32), m7)) else none) else none else some (some (.int (-2 : Int32)), m3)))
set_option maxHeartbeats 4000000 in
theorem c_X12_who (a0 : Nat) (a1 : Int32) (a2 : Int32) (μ : gm_M) : gm_Call ({ cls := "GumBubbleModel", name := "who", desc := "(II)I" } : Jvm.MethodName) prog_14_method_69_code 5 (some .int) 5 0 0 [.ref a0, .int a1, .int a2] μ (f_X12_who a0 a1 a2 μ) := by
  refine gm_start PN_12 (Nat.le_of_ble_eq_true rfl) (fun res μe => ?_)
  unfold f_X12_who
  show gm_A "GumBubbleModel" (gm_nm "who") _ _ _ _ _ _ _ _ _ 0 [(0, .ref a0), (1, .int a1), (2, .int a2)] [] _ _
  refine gm_iload_n d_X12_who_0 rfl 1 rfl ?_
  refine gm_iconst (v := 0) d_X12_who_1 (by decide) ?_
  refine gm_sipush (v := 999) d_X12_who_2 (by decide) ?_
  refine gm_callS [.int a1, .int (0 : Int32), .int (999 : Int32)] (c_X12_in a1 (0 : Int32) (999 : Int32) μ) B_X12_in gw_964 rfl rfl rfl d_X12_who_5 (gm_kI (fun x2 m1 => ?_))
  refine gm_if_eq (tgt := 21) d_X12_who_8 (by decide) (fun h8 => ?_) (fun h8 => ?_)
  ·
    refine gm_bipush (v := -2) d_X12_who_21 (by decide) ?_
    exact gm_iret rfl d_X12_who_23 (Nat.le_of_ble_eq_true rfl) (Nat.le_of_ble_eq_true rfl) (fun h => h)
  ·
    refine gm_iload_n d_X12_who_11 rfl 2 rfl ?_
    refine gm_iconst (v := 0) d_X12_who_12 (by decide) ?_
    refine gm_bipush (v := 40) d_X12_who_13 (by decide) ?_
    refine gm_callS [.int a2, .int (0 : Int32), .int (40 : Int32)] (c_X12_in a2 (0 : Int32) (40 : Int32) m1) B_X12_in gw_964 rfl rfl rfl d_X12_who_15 (gm_kI (fun x4 m3 => ?_))
    refine gm_if_ne (tgt := 24) d_X12_who_18 (by decide) (fun h18 => ?_) (fun h18 => ?_)
    ·
      refine gm_aload_n d_X12_who_24 rfl 0 rfl ?_
      refine gm_grd (fun g25 => ?_)
      refine gm_callV (k0 := 12) [] (c_X12_keeps a0 m3) g25 rfl B_X12_keeps gw_1126 gs_52 rfl rfl rfl d_X12_who_25 (gm_kV (fun m5 => ?_))
      refine gm_aload_n d_X12_who_28 rfl 0 rfl ?_
      refine gm_iload_n d_X12_who_29 rfl 2 rfl ?_
      refine gm_grd (fun g30 => ?_)
      refine gm_callV (k0 := 12) [.int a2] (c_X12_goesOn a0 a2 m5) g30 rfl B_X12_goesOn gw_1110 gs_49 rfl rfl rfl d_X12_who_30 (gm_kV (fun m7 => ?_))
      refine gm_iconst (v := 0) d_X12_who_33 (by decide) ?_
      refine gm_istore_n (L' := [(3, .int (0 : Int32)), (0, .ref a0), (1, .int a1), (2, .int a2)]) d_X12_who_34 rfl (Nat.le_of_ble_eq_true rfl) rfl ?_
      refine gm_iconst (v := 0) d_X12_who_35 (by decide) ?_
      refine gm_istore (L' := [(4, .int (0 : Int32)), (3, .int (0 : Int32)), (0, .ref a0), (1, .int a1), (2, .int a2)]) d_X12_who_36 (Nat.le_of_ble_eq_true rfl) rfl ?_
      refine gm_sub (L' := [(0, .ref a0), (1, .int a1), (2, .int a2), (3, .int (0 : Int32)), (4, .int (0 : Int32))]) [2, 3, 4, 1, 0] rfl ?_
      refine gm_lp (S := Int32 × Int32 × gm_M) (fun _ => 0) (fun _ => 0) (fun s9 => s9.2.2) (fun s9 => [(0, .ref a0), (1, .int a1), (2, .int a2), (3, .int s9.1), (4, .int s9.2.1)]) (fun _ => []) (fun s9 => ?_) 5000 ((0 : Int32), (0 : Int32), m7)
      refine gm_iload d_X12_who_38 4 rfl ?_
      refine gm_aload_n d_X12_who_40 rfl 0 rfl ?_
      refine gm_getR F_12_s gw_890 d_X12_who_41 (fun v10 _ => ?_)
      refine gm_bipush (v := 26) d_X12_who_44 (by decide) ?_
      refine gm_iald d_X12_who_46 (fun v11 _ => ?_)
      refine gm_icmp_ge (tgt := 77) d_X12_who_47 (by decide) (fun h47 => ?_) (fun h47 => ?_)
      ·
        refine gm_aload_n d_X12_who_77 rfl 0 rfl ?_
        refine gm_grd (fun g78 => ?_)
        refine gm_callV (k0 := 12) [] (c_X12_goesBack a0 s9.2.2) g78 rfl B_X12_goesBack gw_1130 gs_53 rfl rfl rfl d_X12_who_78 (gm_kV (fun m12 => ?_))
        refine gm_iload_n d_X12_who_81 rfl 3 rfl ?_
        exact gm_iret rfl d_X12_who_82 (Nat.le_of_ble_eq_true rfl) (Nat.le_of_ble_eq_true rfl) (fun h => h)
      ·
        refine gm_iload_n d_X12_who_50 rfl 3 rfl ?_
        refine gm_aload_n d_X12_who_51 rfl 0 rfl ?_
        refine gm_iload d_X12_who_52 4 rfl ?_
        refine gm_grd (fun g54 => ?_)
        refine gm_callV (k0 := 12) [.int s9.2.1] (c_X12_holdsOf a0 s9.2.1 s9.2.2) g54 rfl B_X12_holdsOf gw_1074 gs_45 rfl rfl rfl d_X12_who_54 (gm_kI (fun x15 m14 => ?_))
        refine gm_iload_n d_X12_who_57 rfl 1 rfl ?_
        refine gm_join (S := Int32) (pj := 69) (kj := 0) (nj := 0) (fun s16 => m14) (fun s16 => [(0, .ref a0), (1, .int a1), (2, .int a2), (3, .int s9.1), (4, .int s9.2.1)]) (fun s16 => [.int s16, .int s9.1]) (fun s16 => ?_) (fun j17 hj17 => ?_)
        ·
          refine gm_ior d_X12_who_69 ?_
          refine gm_istore_n (L' := [(3, .int (s9.1 ||| s16)), (0, .ref a0), (1, .int a1), (2, .int a2), (4, .int s9.2.1)]) d_X12_who_70 rfl (Nat.le_of_ble_eq_true rfl) rfl ?_
          refine gm_iinc (v := s9.2.1 + (1 : Int32)) (L' := [(4, .int (s9.2.1 + (1 : Int32))), (3, .int (s9.1 ||| s16)), (0, .ref a0), (1, .int a1), (2, .int a2)]) d_X12_who_71 4 rfl rfl (Nat.le_of_ble_eq_true rfl) rfl ?_
          refine gm_goto (tgt := 38) d_X12_who_74 (by decide) ?_
          refine gm_sub (L' := [(0, .ref a0), (1, .int a1), (2, .int a2), (3, .int (s9.1 ||| s16)), (4, .int (s9.2.1 + (1 : Int32)))]) [2, 3, 4, 1, 0] rfl ?_
          exact gm_back (fun h => h)
        ·
          refine gm_icmp_ne (tgt := 68) d_X12_who_58 (by decide) (fun h58 => ?_) (fun h58 => ?_)
          ·
            refine gm_iconst (v := 0) d_X12_who_68 (by decide) ?_
            exact hj17 (0 : Int32)
          ·
            refine gm_iconst (v := 1) d_X12_who_61 (by decide) ?_
            refine gm_iload d_X12_who_62 4 rfl ?_
            refine gm_ishl d_X12_who_64 ?_
            refine gm_goto (tgt := 69) d_X12_who_65 (by decide) ?_
            exact hj17 ((1 : Int32) <<< (s9.2.1 &&& 31))
    ·
      refine gm_bipush (v := -2) d_X12_who_21 (by decide) ?_
      exact gm_iret rfl d_X12_who_23 (Nat.le_of_ble_eq_true rfl) (Nat.le_of_ble_eq_true rfl) (fun h => h)

end
