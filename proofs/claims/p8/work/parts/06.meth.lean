theorem d_X11_beats_0 : decode prog_1_method_20_code 0 = .ok (.aload_n 0, 1) := ge_aload_n_0 (by decide +kernel)
theorem d_X11_beats_1 : decode prog_1_method_20_code 1 = .ok (.iload_n 1, 1) := ge_iload_n_1 (by decide +kernel)
theorem d_X11_beats_2 : decode prog_1_method_20_code 2 = .ok (.invokevirtual 115, 3) := ge_invokevirtual (by decide +kernel)
theorem d_X11_beats_5 : decode prog_1_method_20_code 5 = .ok (.ifCond .ne 25, 3) := ge_ifCond_ne (by decide +kernel)
theorem d_X11_beats_8 : decode prog_1_method_20_code 8 = .ok (.aload_n 0, 1) := ge_aload_n_0 (by decide +kernel)
theorem d_X11_beats_9 : decode prog_1_method_20_code 9 = .ok (.iload_n 2, 1) := ge_iload_n_2 (by decide +kernel)
theorem d_X11_beats_10 : decode prog_1_method_20_code 10 = .ok (.invokevirtual 115, 3) := ge_invokevirtual (by decide +kernel)
theorem d_X11_beats_13 : decode prog_1_method_20_code 13 = .ok (.ifCond .ne 17, 3) := ge_ifCond_ne (by decide +kernel)
theorem d_X11_beats_16 : decode prog_1_method_20_code 16 = .ok (.iload_n 3, 1) := ge_iload_n_3 (by decide +kernel)
theorem d_X11_beats_17 : decode prog_1_method_20_code 17 = .ok (.iconst 0, 1) := ge_iconst_0 (by decide +kernel)
theorem d_X11_beats_18 : decode prog_1_method_20_code 18 = .ok (.iconst 1, 1) := ge_iconst_1 (by decide +kernel)
theorem d_X11_beats_19 : decode prog_1_method_20_code 19 = .ok (.invokestatic 76, 3) := ge_invokestatic (by decide +kernel)
theorem d_X11_beats_22 : decode prog_1_method_20_code 22 = .ok (.ifCond .ne 8, 3) := ge_ifCond_ne (by decide +kernel)
theorem d_X11_beats_25 : decode prog_1_method_20_code 25 = .ok (.iload_n 1, 1) := ge_iload_n_1 (by decide +kernel)
theorem d_X11_beats_26 : decode prog_1_method_20_code 26 = .ok (.iload_n 2, 1) := ge_iload_n_2 (by decide +kernel)
theorem d_X11_beats_27 : decode prog_1_method_20_code 27 = .ok (.if_icmp .ne 7, 3) := ge_if_icmp_ne (by decide +kernel)
theorem d_X11_beats_30 : decode prog_1_method_20_code 30 = .ok (.ldc2_w 202, 3) := ge_ldc2_w (by decide +kernel)
theorem d_X11_beats_33 : decode prog_1_method_20_code 33 = .ok (.lreturn, 1) := ge_lreturn (by decide +kernel)
theorem d_X11_beats_34 : decode prog_1_method_20_code 34 = .ok (.aload_n 0, 1) := ge_aload_n_0 (by decide +kernel)
theorem d_X11_beats_35 : decode prog_1_method_20_code 35 = .ok (.iload_n 1, 1) := ge_iload_n_1 (by decide +kernel)
theorem d_X11_beats_36 : decode prog_1_method_20_code 36 = .ok (.invokevirtual 158, 3) := ge_invokevirtual (by decide +kernel)
theorem d_X11_beats_39 : decode prog_1_method_20_code 39 = .ok (.istore 4, 2) := ge_istore (by decide +kernel)
theorem d_X11_beats_41 : decode prog_1_method_20_code 41 = .ok (.aload_n 0, 1) := ge_aload_n_0 (by decide +kernel)
theorem d_X11_beats_42 : decode prog_1_method_20_code 42 = .ok (.iload_n 2, 1) := ge_iload_n_2 (by decide +kernel)
theorem d_X11_beats_43 : decode prog_1_method_20_code 43 = .ok (.invokevirtual 158, 3) := ge_invokevirtual (by decide +kernel)
theorem d_X11_beats_46 : decode prog_1_method_20_code 46 = .ok (.istore 5, 2) := ge_istore (by decide +kernel)
theorem d_X11_beats_48 : decode prog_1_method_20_code 48 = .ok (.iconst 0, 1) := ge_iconst_0 (by decide +kernel)
theorem d_X11_beats_49 : decode prog_1_method_20_code 49 = .ok (.istore 6, 2) := ge_istore (by decide +kernel)
theorem d_X11_beats_51 : decode prog_1_method_20_code 51 = .ok (.iconst 0, 1) := ge_iconst_0 (by decide +kernel)
theorem d_X11_beats_52 : decode prog_1_method_20_code 52 = .ok (.istore 7, 2) := ge_istore (by decide +kernel)
theorem d_X11_beats_54 : decode prog_1_method_20_code 54 = .ok (.iload 7, 2) := ge_iload (by decide +kernel)
theorem d_X11_beats_56 : decode prog_1_method_20_code 56 = .ok (.bipush 10, 2) := ge_bipush (by decide +kernel)
theorem d_X11_beats_58 : decode prog_1_method_20_code 58 = .ok (.if_icmp .ge 26, 3) := ge_if_icmp_ge (by decide +kernel)
theorem d_X11_beats_61 : decode prog_1_method_20_code 61 = .ok (.iload 6, 2) := ge_iload (by decide +kernel)
theorem d_X11_beats_63 : decode prog_1_method_20_code 63 = .ok (.iload 5, 2) := ge_iload (by decide +kernel)
theorem d_X11_beats_65 : decode prog_1_method_20_code 65 = .ok (.iload 4, 2) := ge_iload (by decide +kernel)
theorem d_X11_beats_67 : decode prog_1_method_20_code 67 = .ok (.iload 7, 2) := ge_iload (by decide +kernel)
theorem d_X11_beats_69 : decode prog_1_method_20_code 69 = .ok (.invokestatic 211, 3) := ge_invokestatic (by decide +kernel)
theorem d_X11_beats_72 : decode prog_1_method_20_code 72 = .ok (.invokestatic 217, 3) := ge_invokestatic (by decide +kernel)
theorem d_X11_beats_75 : decode prog_1_method_20_code 75 = .ok (.iadd, 1) := ge_iadd (by decide +kernel)
theorem d_X11_beats_76 : decode prog_1_method_20_code 76 = .ok (.istore 6, 2) := ge_istore (by decide +kernel)
theorem d_X11_beats_78 : decode prog_1_method_20_code 78 = .ok (.iinc 7 1, 3) := ge_iinc (by decide +kernel)
theorem d_X11_beats_81 : decode prog_1_method_20_code 81 = .ok (.goto (-27), 3) := ge_goto (by decide +kernel)
theorem d_X11_beats_84 : decode prog_1_method_20_code 84 = .ok (.iload 6, 2) := ge_iload (by decide +kernel)
theorem d_X11_beats_86 : decode prog_1_method_20_code 86 = .ok (.bipush 100, 2) := ge_bipush (by decide +kernel)
theorem d_X11_beats_88 : decode prog_1_method_20_code 88 = .ok (.iload_n 3, 1) := ge_iload_n_3 (by decide +kernel)
theorem d_X11_beats_89 : decode prog_1_method_20_code 89 = .ok (.invokestatic 207, 3) := ge_invokestatic (by decide +kernel)
theorem d_X11_beats_92 : decode prog_1_method_20_code 92 = .ok (.lreturn, 1) := ge_lreturn (by decide +kernel)
def f_X11_beats (a0 : Nat) (a1 : Int32) (a2 : Int32) (a3 : Int32) (μ : gm_M) : Option (Option Value × gm_M) := if gm_tag μ a0 = 16 then gm_bI (f_X11_isNobody a0 a1 μ) (fun x2 m1 => gm_j (fun (s3 : gm_M) => some (some (.long (-9223372036854775808 : Int64)), s3)) (fun j4 => if x2 ≠ 0 then j4 m1 else if gm_tag m1 a0 = 16 then gm_bI (f_X11_isNobody a0 a2 m1) (fun x6 m5 => if x6 ≠ 0 then j4 m5 else gm_bI (f_X11_isOutside a3 (0 : Int32) (1 : Int32) m5) (fun x8 m7 => if x8 ≠ 0 then j4 m7 else if a1 ≠ a2 then if gm_tag m7 a0 = 16 then gm_bI (f_X11_holdsNow a0 a1 m7) (fun x10 m9 => if gm_tag m9 a0 = 16 then gm_bI (f_X11_holdsNow a0 a2 m9) (fun x12 m11 => gm_loop (fun (s13 : Int32 × Int32 × gm_M) => if (10 : Int32) ≤ s13.2.1 then gm_bL (f_X11_fraction s13.1 (100 : Int32) a3 s13.2.2) (fun x15 m14 => some (Sum.inr (some (.long x15), m14))) else gm_bI (f_X11_thinned x10 s13.2.1 s13.2.2) (fun x17 m16 => gm_bI (f_X11_thinsBelow x12 x17 m16) (fun x19 m18 => some (Sum.inl ((s13.1 + x19), (s13.2.1 + (1 : Int32)), m18))))) 5000 ((0 : Int32), (0 : Int32), m11)) else none) else none else j4 m7)) else none)) else none
set_option maxHeartbeats 4000000 in
theorem c_X11_beats (a0 : Nat) (a1 : Int32) (a2 : Int32) (a3 : Int32) (μ : gm_M) : gm_Call ({ cls := "GumBubble", name := "beats", desc := "(III)J" } : Jvm.MethodName) prog_1_method_20_code 8 (some .long) 5 0 0 [.ref a0, .int a1, .int a2, .int a3] μ (f_X11_beats a0 a1 a2 a3 μ) := by
  refine gm_start PN_11 (Nat.le_of_ble_eq_true rfl) (fun res μe => ?_)
  unfold f_X11_beats
  show gm_A "GumBubble" (gm_nm "beats") _ _ _ _ _ _ _ _ _ 0 [(0, .ref a0), (1, .int a1), (2, .int a2), (3, .int a3)] [] _ _
  refine gm_aload_n d_X11_beats_0 rfl 0 rfl ?_
  refine gm_iload_n d_X11_beats_1 rfl 1 rfl ?_
  refine gm_grd (fun g2 => ?_)
  refine gm_callV (k0 := 11) [.int a1] (c_X11_isNobody a0 a1 μ) g2 rfl B_X11_isNobody gw_478 gs_11 rfl rfl rfl d_X11_beats_2 (gm_kI (fun x2 m1 => ?_))
  refine gm_join (S := gm_M) (pj := 30) (kj := 0) (nj := 0) (fun s3 => s3) (fun s3 => [(0, .ref a0), (1, .int a1), (2, .int a2), (3, .int a3)]) (fun s3 => []) (fun s3 => ?_) (fun j4 hj4 => ?_)
  ·
    refine gm_ldc2 (v := -9223372036854775808) gw_652 d_X11_beats_30 ?_
    exact gm_lret rfl d_X11_beats_33 (Nat.le_of_ble_eq_true rfl) (Nat.le_of_ble_eq_true rfl) (fun h => h)
  ·
    refine gm_if_ne (tgt := 30) d_X11_beats_5 (by decide) (fun h5 => ?_) (fun h5 => ?_)
    ·
      exact hj4 m1
    ·
      refine gm_aload_n d_X11_beats_8 rfl 0 rfl ?_
      refine gm_iload_n d_X11_beats_9 rfl 2 rfl ?_
      refine gm_grd (fun g10 => ?_)
      refine gm_callV (k0 := 11) [.int a2] (c_X11_isNobody a0 a2 m1) g10 rfl B_X11_isNobody gw_478 gs_11 rfl rfl rfl d_X11_beats_10 (gm_kI (fun x6 m5 => ?_))
      refine gm_if_ne (tgt := 30) d_X11_beats_13 (by decide) (fun h13 => ?_) (fun h13 => ?_)
      ·
        exact hj4 m5
      ·
        refine gm_iload_n d_X11_beats_16 rfl 3 rfl ?_
        refine gm_iconst (v := 0) d_X11_beats_17 (by decide) ?_
        refine gm_iconst (v := 1) d_X11_beats_18 (by decide) ?_
        refine gm_callS [.int a3, .int (0 : Int32), .int (1 : Int32)] (c_X11_isOutside a3 (0 : Int32) (1 : Int32) m5) B_X11_isOutside gw_296 rfl rfl rfl d_X11_beats_19 (gm_kI (fun x8 m7 => ?_))
        refine gm_if_ne (tgt := 30) d_X11_beats_22 (by decide) (fun h22 => ?_) (fun h22 => ?_)
        ·
          exact hj4 m7
        ·
          refine gm_iload_n d_X11_beats_25 rfl 1 rfl ?_
          refine gm_iload_n d_X11_beats_26 rfl 2 rfl ?_
          refine gm_icmp_ne (tgt := 34) d_X11_beats_27 (by decide) (fun h27 => ?_) (fun h27 => ?_)
          ·
            refine gm_aload_n d_X11_beats_34 rfl 0 rfl ?_
            refine gm_iload_n d_X11_beats_35 rfl 1 rfl ?_
            refine gm_grd (fun g36 => ?_)
            refine gm_callV (k0 := 11) [.int a1] (c_X11_holdsNow a0 a1 m7) g36 rfl B_X11_holdsNow gw_541 gs_13 rfl rfl rfl d_X11_beats_36 (gm_kI (fun x10 m9 => ?_))
            refine gm_istore (L' := [(4, .int x10), (0, .ref a0), (1, .int a1), (2, .int a2), (3, .int a3)]) d_X11_beats_39 (Nat.le_of_ble_eq_true rfl) rfl ?_
            refine gm_aload_n d_X11_beats_41 rfl 1 rfl ?_
            refine gm_iload_n d_X11_beats_42 rfl 3 rfl ?_
            refine gm_grd (fun g43 => ?_)
            refine gm_callV (k0 := 11) [.int a2] (c_X11_holdsNow a0 a2 m9) g43 rfl B_X11_holdsNow gw_541 gs_13 rfl rfl rfl d_X11_beats_43 (gm_kI (fun x12 m11 => ?_))
            refine gm_istore (L' := [(5, .int x12), (4, .int x10), (0, .ref a0), (1, .int a1), (2, .int a2), (3, .int a3)]) d_X11_beats_46 (Nat.le_of_ble_eq_true rfl) rfl ?_
            refine gm_iconst (v := 0) d_X11_beats_48 (by decide) ?_
            refine gm_istore (L' := [(6, .int (0 : Int32)), (5, .int x12), (4, .int x10), (0, .ref a0), (1, .int a1), (2, .int a2), (3, .int a3)]) d_X11_beats_49 (Nat.le_of_ble_eq_true rfl) rfl ?_
            refine gm_iconst (v := 0) d_X11_beats_51 (by decide) ?_
            refine gm_istore (L' := [(7, .int (0 : Int32)), (6, .int (0 : Int32)), (5, .int x12), (4, .int x10), (0, .ref a0), (1, .int a1), (2, .int a2), (3, .int a3)]) d_X11_beats_52 (Nat.le_of_ble_eq_true rfl) rfl ?_
            refine gm_sub (L' := [(0, .ref a0), (1, .int a1), (2, .int a2), (3, .int a3), (4, .int x10), (5, .int x12), (6, .int (0 : Int32)), (7, .int (0 : Int32))]) [4, 5, 6, 7, 3, 2, 1, 0] rfl ?_
            refine gm_lp (S := Int32 × Int32 × gm_M) (fun _ => 0) (fun _ => 0) (fun s13 => s13.2.2) (fun s13 => [(0, .ref a0), (1, .int a1), (2, .int a2), (3, .int a3), (4, .int x10), (5, .int x12), (6, .int s13.1), (7, .int s13.2.1)]) (fun _ => []) (fun s13 => ?_) 5000 ((0 : Int32), (0 : Int32), m11)
            refine gm_iload d_X11_beats_54 7 rfl ?_
            refine gm_bipush (v := 10) d_X11_beats_56 (by decide) ?_
            refine gm_icmp_ge (tgt := 84) d_X11_beats_58 (by decide) (fun h58 => ?_) (fun h58 => ?_)
            ·
              refine gm_iload d_X11_beats_84 6 rfl ?_
              refine gm_bipush (v := 100) d_X11_beats_86 (by decide) ?_
              refine gm_iload_n d_X11_beats_88 rfl 3 rfl ?_
              refine gm_callS [.int s13.1, .int (100 : Int32), .int a3] (c_X11_fraction s13.1 (100 : Int32) a3 s13.2.2) B_X11_fraction gw_662 rfl rfl rfl d_X11_beats_89 (gm_kL (fun x15 m14 => ?_))
              exact gm_lret rfl d_X11_beats_92 (Nat.le_of_ble_eq_true rfl) (Nat.le_of_ble_eq_true rfl) (fun h => h)
            ·
              refine gm_iload d_X11_beats_61 6 rfl ?_
              refine gm_iload d_X11_beats_63 5 rfl ?_
              refine gm_iload d_X11_beats_65 4 rfl ?_
              refine gm_iload d_X11_beats_67 7 rfl ?_
              refine gm_callS [.int x10, .int s13.2.1] (c_X11_thinned x10 s13.2.1 s13.2.2) B_X11_thinned gw_659 rfl rfl rfl d_X11_beats_69 (gm_kI (fun x17 m16 => ?_))
              refine gm_callS [.int x12, .int x17] (c_X11_thinsBelow x12 x17 m16) B_X11_thinsBelow gw_656 rfl rfl rfl d_X11_beats_72 (gm_kI (fun x19 m18 => ?_))
              refine gm_iadd d_X11_beats_75 ?_
              refine gm_istore (L' := [(6, .int (s13.1 + x19)), (0, .ref a0), (1, .int a1), (2, .int a2), (3, .int a3), (4, .int x10), (5, .int x12), (7, .int s13.2.1)]) d_X11_beats_76 (Nat.le_of_ble_eq_true rfl) rfl ?_
              refine gm_iinc (v := s13.2.1 + (1 : Int32)) (L' := [(7, .int (s13.2.1 + (1 : Int32))), (6, .int (s13.1 + x19)), (0, .ref a0), (1, .int a1), (2, .int a2), (3, .int a3), (4, .int x10), (5, .int x12)]) d_X11_beats_78 7 rfl rfl (Nat.le_of_ble_eq_true rfl) rfl ?_
              refine gm_goto (tgt := 54) d_X11_beats_81 (by decide) ?_
              refine gm_sub (L' := [(0, .ref a0), (1, .int a1), (2, .int a2), (3, .int a3), (4, .int x10), (5, .int x12), (6, .int (s13.1 + x19)), (7, .int (s13.2.1 + (1 : Int32)))]) [2, 3, 4, 5, 6, 7, 1, 0] rfl ?_
              exact gm_back (fun h => h)
          ·
            exact hj4 m7
theorem d_X2_breathe_0 : decode prog_4_method_6_code 0 = .ok (.aload_n 0, 1) := ge_aload_n_0 (by decide +kernel)
theorem d_X2_breathe_1 : decode prog_4_method_6_code 1 = .ok (.dup, 1) := ge_dup (by decide +kernel)
theorem d_X2_breathe_2 : decode prog_4_method_6_code 2 = .ok (.getfield 35, 3) := ge_getfield (by decide +kernel)
theorem d_X2_breathe_5 : decode prog_4_method_6_code 5 = .ok (.iload_n 1, 1) := ge_iload_n_1 (by decide +kernel)
theorem d_X2_breathe_6 : decode prog_4_method_6_code 6 = .ok (.iadd, 1) := ge_iadd (by decide +kernel)
theorem d_X2_breathe_7 : decode prog_4_method_6_code 7 = .ok (.putfield 35, 3) := ge_putfield (by decide +kernel)
theorem d_X2_breathe_10 : decode prog_4_method_6_code 10 = .ok (.aload_n 0, 1) := ge_aload_n_0 (by decide +kernel)
theorem d_X2_breathe_11 : decode prog_4_method_6_code 11 = .ok (.getfield 35, 3) := ge_getfield (by decide +kernel)
theorem d_X2_breathe_14 : decode prog_4_method_6_code 14 = .ok (.iload_n 2, 1) := ge_iload_n_2 (by decide +kernel)
theorem d_X2_breathe_15 : decode prog_4_method_6_code 15 = .ok (.if_icmp .gt 5, 3) := ge_if_icmp_gt (by decide +kernel)
theorem d_X2_breathe_18 : decode prog_4_method_6_code 18 = .ok (.iconst 0, 1) := ge_iconst_0 (by decide +kernel)
theorem d_X2_breathe_19 : decode prog_4_method_6_code 19 = .ok (.ireturn, 1) := ge_ireturn (by decide +kernel)
theorem d_X2_breathe_20 : decode prog_4_method_6_code 20 = .ok (.aload_n 0, 1) := ge_aload_n_0 (by decide +kernel)
theorem d_X2_breathe_21 : decode prog_4_method_6_code 21 = .ok (.sipush 9999, 3) := ge_sipush (by decide +kernel)
theorem d_X2_breathe_24 : decode prog_4_method_6_code 24 = .ok (.aload_n 0, 1) := ge_aload_n_0 (by decide +kernel)
theorem d_X2_breathe_25 : decode prog_4_method_6_code 25 = .ok (.getfield 38, 3) := ge_getfield (by decide +kernel)
theorem d_X2_breathe_28 : decode prog_4_method_6_code 28 = .ok (.aload_n 0, 1) := ge_aload_n_0 (by decide +kernel)
theorem d_X2_breathe_29 : decode prog_4_method_6_code 29 = .ok (.getfield 35, 3) := ge_getfield (by decide +kernel)
theorem d_X2_breathe_32 : decode prog_4_method_6_code 32 = .ok (.bipush 10, 2) := ge_bipush (by decide +kernel)
theorem d_X2_breathe_34 : decode prog_4_method_6_code 34 = .ok (.idiv, 1) := ge_idiv (by decide +kernel)
theorem d_X2_breathe_35 : decode prog_4_method_6_code 35 = .ok (.iadd, 1) := ge_iadd (by decide +kernel)
theorem d_X2_breathe_36 : decode prog_4_method_6_code 36 = .ok (.invokestatic 75, 3) := ge_invokestatic (by decide +kernel)
theorem d_X2_breathe_39 : decode prog_4_method_6_code 39 = .ok (.putfield 38, 3) := ge_putfield (by decide +kernel)
theorem d_X2_breathe_42 : decode prog_4_method_6_code 42 = .ok (.aload_n 0, 1) := ge_aload_n_0 (by decide +kernel)
theorem d_X2_breathe_43 : decode prog_4_method_6_code 43 = .ok (.iconst 0, 1) := ge_iconst_0 (by decide +kernel)
theorem d_X2_breathe_44 : decode prog_4_method_6_code 44 = .ok (.putfield 35, 3) := ge_putfield (by decide +kernel)
theorem d_X2_breathe_47 : decode prog_4_method_6_code 47 = .ok (.iconst 1, 1) := ge_iconst_1 (by decide +kernel)
theorem d_X2_breathe_48 : decode prog_4_method_6_code 48 = .ok (.ireturn, 1) := ge_ireturn (by decide +kernel)
def f_X2_breathe (a0 : Nat) (a1 : Int32) (a2 : Int32) (μ : gm_M) : Option (Option Value × gm_M) := gm_gI μ [7] a0 6 (fun v1 => gm_pI μ [7] a0 6 (v1 + a1) (fun m2 => gm_gI m2 [7] a0 6 (fun v3 => if a2 < v3 then gm_gI m2 [7] a0 7 (fun v4 => gm_gI m2 [7] a0 6 (fun v5 => if (10 : Int32) = 0 then none else gm_pI m2 [7] a0 7 (if (v4 + (v5 / (10 : Int32))) < (9999 : Int32) then (v4 + (v5 / (10 : Int32))) else (9999 : Int32)) (fun m7 => gm_pI m7 [7] a0 6 (0 : Int32) (fun m8 => if (1 : Int32) = 0 ∨ (1 : Int32) = 1 then some (some (.int (1 : Int32)), m8) else none)))) else if (0 : Int32) = 0 ∨ (0 : Int32) = 1 then some (some (.int (0 : Int32)), m2) else none)))
set_option maxHeartbeats 4000000 in
theorem c_X2_breathe (a0 : Nat) (a1 : Int32) (a2 : Int32) (μ : gm_M) : gm_Call ({ cls := "GumBubble$Child", name := "breathe", desc := "(II)Z" } : Jvm.MethodName) prog_4_method_6_code 3 (some .boolean) 1 0 0 [.ref a0, .int a1, .int a2] μ (f_X2_breathe a0 a1 a2 μ) := by
  refine gm_start PN_2 (Nat.le_of_ble_eq_true rfl) (fun res μe => ?_)
  unfold f_X2_breathe
  show gm_A "GumBubble$Child" (gm_nm "breathe") _ _ _ _ _ _ _ _ _ 0 [(0, .ref a0), (1, .int a1), (2, .int a2)] [] _ _
  refine gm_aload_n d_X2_breathe_0 rfl 0 rfl ?_
  refine gm_dup d_X2_breathe_1 rfl ?_
  refine gm_getI F_2_bubble gw_192 d_X2_breathe_2 (fun v1 _ => ?_)
  refine gm_iload_n d_X2_breathe_5 rfl 1 rfl ?_
  refine gm_iadd d_X2_breathe_6 ?_
  refine gm_putI F_2_bubble (Or.inl rfl) gw_192 d_X2_breathe_7 (fun m2 _ => ?_)
  refine gm_aload_n d_X2_breathe_10 rfl 0 rfl ?_
  refine gm_getI F_2_bubble gw_192 d_X2_breathe_11 (fun v3 _ => ?_)
  refine gm_iload_n d_X2_breathe_14 rfl 2 rfl ?_
  refine gm_icmp_gt (tgt := 20) d_X2_breathe_15 (by decide) (fun h15 => ?_) (fun h15 => ?_)
  ·
    refine gm_aload_n d_X2_breathe_20 rfl 0 rfl ?_
    refine gm_sipush (v := 9999) d_X2_breathe_21 (by decide) ?_
    refine gm_aload_n d_X2_breathe_24 rfl 0 rfl ?_
    refine gm_getI F_2_hair gw_194 d_X2_breathe_25 (fun v4 _ => ?_)
    refine gm_aload_n d_X2_breathe_28 rfl 0 rfl ?_
    refine gm_getI F_2_bubble gw_192 d_X2_breathe_29 (fun v5 _ => ?_)
    refine gm_bipush (v := 10) d_X2_breathe_32 (by decide) ?_
    refine gm_idiv d_X2_breathe_34 ?_
    refine gm_iadd d_X2_breathe_35 ?_
    refine gm_min gw_602 gw_310 gw_3 (show _ from gw_311) (Nat.le_of_ble_eq_true rfl) (Nat.le_of_ble_eq_true rfl) (Nat.le_of_ble_eq_true rfl) (Nat.le_of_ble_eq_true rfl) rfl d_X2_breathe_36 ?_
    refine gm_putI F_2_hair (Or.inl rfl) gw_194 d_X2_breathe_39 (fun m7 _ => ?_)
    refine gm_aload_n d_X2_breathe_42 rfl 0 rfl ?_
    refine gm_iconst (v := 0) d_X2_breathe_43 (by decide) ?_
    refine gm_putI F_2_bubble (Or.inl rfl) gw_192 d_X2_breathe_44 (fun m8 _ => ?_)
    refine gm_iconst (v := 1) d_X2_breathe_47 (by decide) ?_
    exact gm_zret rfl d_X2_breathe_48 (Nat.le_of_ble_eq_true rfl) (Nat.le_of_ble_eq_true rfl) (fun h => h)
  ·
    refine gm_iconst (v := 0) d_X2_breathe_18 (by decide) ?_
    exact gm_zret rfl d_X2_breathe_19 (Nat.le_of_ble_eq_true rfl) (Nat.le_of_ble_eq_true rfl) (fun h => h)
theorem d_X11_blow_0 : decode prog_1_method_9_code 0 = .ok (.aload_n 0, 1) := ge_aload_n_0 (by decide +kernel)
theorem d_X11_blow_1 : decode prog_1_method_9_code 1 = .ok (.iload_n 1, 1) := ge_iload_n_1 (by decide +kernel)
theorem d_X11_blow_2 : decode prog_1_method_9_code 2 = .ok (.invokevirtual 115, 3) := ge_invokevirtual (by decide +kernel)
theorem d_X11_blow_5 : decode prog_1_method_9_code 5 = .ok (.ifCond .eq 5, 3) := ge_ifCond_eq (by decide +kernel)
theorem d_X11_blow_8 : decode prog_1_method_9_code 8 = .ok (.iconst (-1), 1) := ge_iconst_m1_ (by decide +kernel)
theorem d_X11_blow_9 : decode prog_1_method_9_code 9 = .ok (.ireturn, 1) := ge_ireturn (by decide +kernel)
theorem d_X11_blow_10 : decode prog_1_method_9_code 10 = .ok (.iload_n 2, 1) := ge_iload_n_2 (by decide +kernel)
theorem d_X11_blow_11 : decode prog_1_method_9_code 11 = .ok (.iconst 1, 1) := ge_iconst_1 (by decide +kernel)
theorem d_X11_blow_12 : decode prog_1_method_9_code 12 = .ok (.bipush 99, 2) := ge_bipush (by decide +kernel)
theorem d_X11_blow_14 : decode prog_1_method_9_code 14 = .ok (.invokestatic 76, 3) := ge_invokestatic (by decide +kernel)
theorem d_X11_blow_17 : decode prog_1_method_9_code 17 = .ok (.ifCond .eq 6, 3) := ge_ifCond_eq (by decide +kernel)
theorem d_X11_blow_20 : decode prog_1_method_9_code 20 = .ok (.bipush (-2), 2) := ge_bipush (by decide +kernel)
theorem d_X11_blow_22 : decode prog_1_method_9_code 22 = .ok (.ireturn, 1) := ge_ireturn (by decide +kernel)
theorem d_X11_blow_23 : decode prog_1_method_9_code 23 = .ok (.aload_n 0, 1) := ge_aload_n_0 (by decide +kernel)
theorem d_X11_blow_24 : decode prog_1_method_9_code 24 = .ok (.getfield 60, 3) := ge_getfield (by decide +kernel)
theorem d_X11_blow_27 : decode prog_1_method_9_code 27 = .ok (.getfield 104, 3) := ge_getfield (by decide +kernel)
theorem d_X11_blow_30 : decode prog_1_method_9_code 30 = .ok (.iload_n 1, 1) := ge_iload_n_1 (by decide +kernel)
theorem d_X11_blow_31 : decode prog_1_method_9_code 31 = .ok (.aaload, 1) := ge_aaload (by decide +kernel)
theorem d_X11_blow_32 : decode prog_1_method_9_code 32 = .ok (.astore_n 3, 1) := ge_astore_n_3 (by decide +kernel)
theorem d_X11_blow_33 : decode prog_1_method_9_code 33 = .ok (.aload_n 3, 1) := ge_aload_n_3 (by decide +kernel)
theorem d_X11_blow_34 : decode prog_1_method_9_code 34 = .ok (.getfield 129, 3) := ge_getfield (by decide +kernel)
theorem d_X11_blow_37 : decode prog_1_method_9_code 37 = .ok (.ifCond .ne 6, 3) := ge_ifCond_ne (by decide +kernel)
theorem d_X11_blow_40 : decode prog_1_method_9_code 40 = .ok (.bipush (-3), 2) := ge_bipush (by decide +kernel)
theorem d_X11_blow_42 : decode prog_1_method_9_code 42 = .ok (.ireturn, 1) := ge_ireturn (by decide +kernel)
theorem d_X11_blow_43 : decode prog_1_method_9_code 43 = .ok (.aload_n 3, 1) := ge_aload_n_3 (by decide +kernel)
theorem d_X11_blow_44 : decode prog_1_method_9_code 44 = .ok (.iload_n 2, 1) := ge_iload_n_2 (by decide +kernel)
theorem d_X11_blow_45 : decode prog_1_method_9_code 45 = .ok (.aload_n 0, 1) := ge_aload_n_0 (by decide +kernel)
theorem d_X11_blow_46 : decode prog_1_method_9_code 46 = .ok (.iload_n 1, 1) := ge_iload_n_1 (by decide +kernel)
theorem d_X11_blow_47 : decode prog_1_method_9_code 47 = .ok (.invokevirtual 158, 3) := ge_invokevirtual (by decide +kernel)
theorem d_X11_blow_50 : decode prog_1_method_9_code 50 = .ok (.invokevirtual 175, 3) := ge_invokevirtual (by decide +kernel)
theorem d_X11_blow_53 : decode prog_1_method_9_code 53 = .ok (.istore 4, 2) := ge_istore (by decide +kernel)
theorem d_X11_blow_55 : decode prog_1_method_9_code 55 = .ok (.iload 4, 2) := ge_iload (by decide +kernel)
theorem d_X11_blow_57 : decode prog_1_method_9_code 57 = .ok (.ifCond .eq 8, 3) := ge_ifCond_eq (by decide +kernel)
theorem d_X11_blow_60 : decode prog_1_method_9_code 60 = .ok (.bipush (-6), 2) := ge_bipush (by decide +kernel)
theorem d_X11_blow_62 : decode prog_1_method_9_code 62 = .ok (.goto 7, 3) := ge_goto (by decide +kernel)
theorem d_X11_blow_65 : decode prog_1_method_9_code 65 = .ok (.aload_n 3, 1) := ge_aload_n_3 (by decide +kernel)
theorem d_X11_blow_66 : decode prog_1_method_9_code 66 = .ok (.getfield 138, 3) := ge_getfield (by decide +kernel)
theorem d_X11_blow_69 : decode prog_1_method_9_code 69 = .ok (.ireturn, 1) := ge_ireturn (by decide +kernel)
def f_X11_blow (a0 : Nat) (a1 : Int32) (a2 : Int32) (μ : gm_M) : Option (Option Value × gm_M) := if gm_tag μ a0 = 16 then gm_bI (f_X11_isNobody a0 a1 μ) (fun x2 m1 => if x2 = 0 then gm_bI (f_X11_isOutside a2 (1 : Int32) (99 : Int32) m1) (fun x4 m3 => if x4 = 0 then gm_gR m3 [16] a0 1 (fun v5 => gm_gR m3 [13] v5 2 (fun v6 => gm_aR m3 4 v6 a1 (fun v7 => gm_gI m3 [7] v7 3 (fun v8 => if v8 ≠ 0 then if gm_tag m3 a0 = 16 then gm_bI (f_X11_holdsNow a0 a1 m3) (fun x10 m9 => if gm_tag m9 v7 = 7 then gm_bI (f_X2_breathe v7 a2 x10 m9) (fun x12 m11 => if x12 = 0 then gm_gI m11 [7] v7 6 (fun v13 => some (some (.int v13), m11)) else some (some (.int (-6 : Int32)), m11)) else none) else none else some (some (.int (-3 : Int32)), m3))))) else some (some (.int (-2 : Int32)), m3)) else some (some (.int (-1 : Int32)), m1)) else none
set_option maxHeartbeats 4000000 in
theorem c_X11_blow (a0 : Nat) (a1 : Int32) (a2 : Int32) (μ : gm_M) : gm_Call ({ cls := "GumBubble", name := "blow", desc := "(II)I" } : Jvm.MethodName) prog_1_method_9_code 5 (some .int) 5 0 0 [.ref a0, .int a1, .int a2] μ (f_X11_blow a0 a1 a2 μ) := by
  refine gm_start PN_11 (Nat.le_of_ble_eq_true rfl) (fun res μe => ?_)
  unfold f_X11_blow
  show gm_A "GumBubble" (gm_nm "blow") _ _ _ _ _ _ _ _ _ 0 [(0, .ref a0), (1, .int a1), (2, .int a2)] [] _ _
  refine gm_aload_n d_X11_blow_0 rfl 0 rfl ?_
  refine gm_iload_n d_X11_blow_1 rfl 1 rfl ?_
  refine gm_grd (fun g2 => ?_)
  refine gm_callV (k0 := 11) [.int a1] (c_X11_isNobody a0 a1 μ) g2 rfl B_X11_isNobody gw_478 gs_11 rfl rfl rfl d_X11_blow_2 (gm_kI (fun x2 m1 => ?_))
  refine gm_if_eq (tgt := 10) d_X11_blow_5 (by decide) (fun h5 => ?_) (fun h5 => ?_)
  ·
    refine gm_iload_n d_X11_blow_10 rfl 2 rfl ?_
    refine gm_iconst (v := 1) d_X11_blow_11 (by decide) ?_
    refine gm_bipush (v := 99) d_X11_blow_12 (by decide) ?_
    refine gm_callS [.int a2, .int (1 : Int32), .int (99 : Int32)] (c_X11_isOutside a2 (1 : Int32) (99 : Int32) m1) B_X11_isOutside gw_296 rfl rfl rfl d_X11_blow_14 (gm_kI (fun x4 m3 => ?_))
    refine gm_if_eq (tgt := 23) d_X11_blow_17 (by decide) (fun h17 => ?_) (fun h17 => ?_)
    ·
      refine gm_aload_n d_X11_blow_23 rfl 0 rfl ?_
      refine gm_getR F_11_now gw_262 d_X11_blow_24 (fun v5 _ => ?_)
      refine gm_getR F_8_children gw_223 d_X11_blow_27 (fun v6 _ => ?_)
      refine gm_iload_n d_X11_blow_30 rfl 1 rfl ?_
      refine gm_aald (Or.inr rfl) d_X11_blow_31 (fun v7 _ => ?_)
      refine gm_astore_n (L' := [(3, .ref v7), (0, .ref a0), (1, .int a1), (2, .int a2)]) d_X11_blow_32 rfl (Nat.le_of_ble_eq_true rfl) rfl ?_
      refine gm_aload_n d_X11_blow_33 rfl 0 rfl ?_
      refine gm_getI F_2_pieces gw_185 d_X11_blow_34 (fun v8 _ => ?_)
      refine gm_if_ne (tgt := 43) d_X11_blow_37 (by decide) (fun h37 => ?_) (fun h37 => ?_)
      ·
        refine gm_aload_n d_X11_blow_43 rfl 0 rfl ?_
        refine gm_iload_n d_X11_blow_44 rfl 3 rfl ?_
        refine gm_aload_n d_X11_blow_45 rfl 1 rfl ?_
        refine gm_iload_n d_X11_blow_46 rfl 2 rfl ?_
        refine gm_grd (fun g47 => ?_)
        refine gm_callV (k0 := 11) [.int a1] (c_X11_holdsNow a0 a1 m3) g47 rfl B_X11_holdsNow gw_541 gs_13 rfl rfl rfl d_X11_blow_47 (gm_kI (fun x10 m9 => ?_))
        refine gm_grd (fun g50 => ?_)
        refine gm_callV (k0 := 2) [.int a2, .int x10] (c_X2_breathe v7 a2 x10 m9) g50 rfl B_X2_breathe gw_611 gw_613 rfl rfl rfl d_X11_blow_50 (gm_kI (fun x12 m11 => ?_))
        refine gm_istore (L' := [(4, .int x12), (3, .ref v7), (0, .ref a0), (1, .int a1), (2, .int a2)]) d_X11_blow_53 (Nat.le_of_ble_eq_true rfl) rfl ?_
        refine gm_iload d_X11_blow_55 0 rfl ?_
        refine gm_if_eq (tgt := 65) d_X11_blow_57 (by decide) (fun h57 => ?_) (fun h57 => ?_)
        ·
          refine gm_aload_n d_X11_blow_65 rfl 1 rfl ?_
          refine gm_getI F_2_bubble gw_193 d_X11_blow_66 (fun v13 _ => ?_)
          exact gm_iret rfl d_X11_blow_69 (Nat.le_of_ble_eq_true rfl) (Nat.le_of_ble_eq_true rfl) (fun h => h)
        ·
          refine gm_bipush (v := -6) d_X11_blow_60 (by decide) ?_
          refine gm_goto (tgt := 69) d_X11_blow_62 (by decide) ?_
          exact gm_iret rfl d_X11_blow_69 (Nat.le_of_ble_eq_true rfl) (Nat.le_of_ble_eq_true rfl) (fun h => h)
      ·
        refine gm_bipush (v := -3) d_X11_blow_40 (by decide) ?_
        exact gm_iret rfl d_X11_blow_42 (Nat.le_of_ble_eq_true rfl) (Nat.le_of_ble_eq_true rfl) (fun h => h)
    ·
      refine gm_bipush (v := -2) d_X11_blow_20 (by decide) ?_
      exact gm_iret rfl d_X11_blow_22 (Nat.le_of_ble_eq_true rfl) (Nat.le_of_ble_eq_true rfl) (fun h => h)
  ·
    refine gm_iconst (v := -1) d_X11_blow_8 (by decide) ?_
    exact gm_iret rfl d_X11_blow_9 (Nat.le_of_ble_eq_true rfl) (Nat.le_of_ble_eq_true rfl) (fun h => h)
theorem d_X7_isFull_0 : decode prog_9_method_2_code 0 = .ok (.aload_n 0, 1) := ge_aload_n_0 (by decide +kernel)
theorem d_X7_isFull_1 : decode prog_9_method_2_code 1 = .ok (.getfield 23, 3) := ge_getfield (by decide +kernel)
theorem d_X7_isFull_4 : decode prog_9_method_2_code 4 = .ok (.aload_n 0, 1) := ge_aload_n_0 (by decide +kernel)
theorem d_X7_isFull_5 : decode prog_9_method_2_code 5 = .ok (.getfield 7, 3) := ge_getfield (by decide +kernel)
theorem d_X7_isFull_8 : decode prog_9_method_2_code 8 = .ok (.if_icmp .lt 7, 3) := ge_if_icmp_lt (by decide +kernel)
theorem d_X7_isFull_11 : decode prog_9_method_2_code 11 = .ok (.iconst 1, 1) := ge_iconst_1 (by decide +kernel)
theorem d_X7_isFull_12 : decode prog_9_method_2_code 12 = .ok (.goto 4, 3) := ge_goto (by decide +kernel)
theorem d_X7_isFull_15 : decode prog_9_method_2_code 15 = .ok (.iconst 0, 1) := ge_iconst_0 (by decide +kernel)
theorem d_X7_isFull_16 : decode prog_9_method_2_code 16 = .ok (.ireturn, 1) := ge_ireturn (by decide +kernel)
def f_X7_isFull (a0 : Nat) (μ : gm_M) : Option (Option Value × gm_M) := gm_gI μ [12] a0 2 (fun v1 => gm_gI μ [12] a0 0 (fun v2 => if v1 < v2 then if (0 : Int32) = 0 ∨ (0 : Int32) = 1 then some (some (.int (0 : Int32)), μ) else none else if (1 : Int32) = 0 ∨ (1 : Int32) = 1 then some (some (.int (1 : Int32)), μ) else none))
set_option maxHeartbeats 4000000 in
theorem c_X7_isFull (a0 : Nat) (μ : gm_M) : gm_Call ({ cls := "GumBubble$Rows", name := "isFull", desc := "()Z" } : Jvm.MethodName) prog_9_method_2_code 1 (some .boolean) 0 0 0 [.ref a0] μ (f_X7_isFull a0 μ) := by
  refine gm_start PN_7 (Nat.le_of_ble_eq_true rfl) (fun res μe => ?_)
  unfold f_X7_isFull
  show gm_A "GumBubble$Rows" (gm_nm "isFull") _ _ _ _ _ _ _ _ _ 0 [(0, .ref a0)] [] _ _
  refine gm_aload_n d_X7_isFull_0 rfl 0 rfl ?_
  refine gm_getI F_7_count gw_42 d_X7_isFull_1 (fun v1 _ => ?_)
  refine gm_aload_n d_X7_isFull_4 rfl 0 rfl ?_
  refine gm_getI F_7_limit gw_40 d_X7_isFull_5 (fun v2 _ => ?_)
  refine gm_icmp_lt (tgt := 15) d_X7_isFull_8 (by decide) (fun h8 => ?_) (fun h8 => ?_)
  ·
    refine gm_iconst (v := 0) d_X7_isFull_15 (by decide) ?_
    exact gm_zret rfl d_X7_isFull_16 (Nat.le_of_ble_eq_true rfl) (Nat.le_of_ble_eq_true rfl) (fun h => h)
  ·
    refine gm_iconst (v := 1) d_X7_isFull_11 (by decide) ?_
    refine gm_goto (tgt := 16) d_X7_isFull_12 (by decide) ?_
    exact gm_zret rfl d_X7_isFull_16 (Nat.le_of_ble_eq_true rfl) (Nat.le_of_ble_eq_true rfl) (fun h => h)
theorem d_X11_book_0 : decode prog_1_method_31_code 0 = .ok (.iload_n 1, 1) := ge_iload_n_1 (by decide +kernel)
theorem d_X11_book_1 : decode prog_1_method_31_code 1 = .ok (.iconst (-1), 1) := ge_iconst_m1_ (by decide +kernel)
theorem d_X11_book_2 : decode prog_1_method_31_code 2 = .ok (.if_icmp .ne 14, 3) := ge_if_icmp_ne (by decide +kernel)
theorem d_X11_book_5 : decode prog_1_method_31_code 5 = .ok (.aload_n 0, 1) := ge_aload_n_0 (by decide +kernel)
theorem d_X11_book_6 : decode prog_1_method_31_code 6 = .ok (.getfield 60, 3) := ge_getfield (by decide +kernel)
theorem d_X11_book_9 : decode prog_1_method_31_code 9 = .ok (.getfield 256, 3) := ge_getfield (by decide +kernel)
theorem d_X11_book_12 : decode prog_1_method_31_code 12 = .ok (.invokevirtual 236, 3) := ge_invokevirtual (by decide +kernel)
theorem d_X11_book_15 : decode prog_1_method_31_code 15 = .ok (.ireturn, 1) := ge_ireturn (by decide +kernel)
theorem d_X11_book_16 : decode prog_1_method_31_code 16 = .ok (.aload_n 0, 1) := ge_aload_n_0 (by decide +kernel)
theorem d_X11_book_17 : decode prog_1_method_31_code 17 = .ok (.iload_n 1, 1) := ge_iload_n_1 (by decide +kernel)
theorem d_X11_book_18 : decode prog_1_method_31_code 18 = .ok (.invokevirtual 115, 3) := ge_invokevirtual (by decide +kernel)
theorem d_X11_book_21 : decode prog_1_method_31_code 21 = .ok (.ifCond .eq 5, 3) := ge_ifCond_eq (by decide +kernel)
theorem d_X11_book_24 : decode prog_1_method_31_code 24 = .ok (.iconst (-1), 1) := ge_iconst_m1_ (by decide +kernel)
theorem d_X11_book_25 : decode prog_1_method_31_code 25 = .ok (.ireturn, 1) := ge_ireturn (by decide +kernel)
theorem d_X11_book_26 : decode prog_1_method_31_code 26 = .ok (.iload_n 2, 1) := ge_iload_n_2 (by decide +kernel)
theorem d_X11_book_27 : decode prog_1_method_31_code 27 = .ok (.iconst 0, 1) := ge_iconst_0 (by decide +kernel)
theorem d_X11_book_28 : decode prog_1_method_31_code 28 = .ok (.sipush 999, 3) := ge_sipush (by decide +kernel)
theorem d_X11_book_31 : decode prog_1_method_31_code 31 = .ok (.invokestatic 76, 3) := ge_invokestatic (by decide +kernel)
theorem d_X11_book_34 : decode prog_1_method_31_code 34 = .ok (.ifCond .eq 6, 3) := ge_ifCond_eq (by decide +kernel)
theorem d_X11_book_37 : decode prog_1_method_31_code 37 = .ok (.bipush (-2), 2) := ge_bipush (by decide +kernel)
theorem d_X11_book_39 : decode prog_1_method_31_code 39 = .ok (.ireturn, 1) := ge_ireturn (by decide +kernel)
theorem d_X11_book_40 : decode prog_1_method_31_code 40 = .ok (.aload_n 0, 1) := ge_aload_n_0 (by decide +kernel)
theorem d_X11_book_41 : decode prog_1_method_31_code 41 = .ok (.getfield 60, 3) := ge_getfield (by decide +kernel)
theorem d_X11_book_44 : decode prog_1_method_31_code 44 = .ok (.getfield 256, 3) := ge_getfield (by decide +kernel)
theorem d_X11_book_47 : decode prog_1_method_31_code 47 = .ok (.invokevirtual 239, 3) := ge_invokevirtual (by decide +kernel)
theorem d_X11_book_50 : decode prog_1_method_31_code 50 = .ok (.ifCond .eq 6, 3) := ge_ifCond_eq (by decide +kernel)
theorem d_X11_book_53 : decode prog_1_method_31_code 53 = .ok (.bipush (-4), 2) := ge_bipush (by decide +kernel)
theorem d_X11_book_55 : decode prog_1_method_31_code 55 = .ok (.ireturn, 1) := ge_ireturn (by decide +kernel)
theorem d_X11_book_56 : decode prog_1_method_31_code 56 = .ok (.aload_n 0, 1) := ge_aload_n_0 (by decide +kernel)
theorem d_X11_book_57 : decode prog_1_method_31_code 57 = .ok (.getfield 60, 3) := ge_getfield (by decide +kernel)
theorem d_X11_book_60 : decode prog_1_method_31_code 60 = .ok (.getfield 256, 3) := ge_getfield (by decide +kernel)
theorem d_X11_book_63 : decode prog_1_method_31_code 63 = .ok (.iload_n 1, 1) := ge_iload_n_1 (by decide +kernel)
theorem d_X11_book_64 : decode prog_1_method_31_code 64 = .ok (.iload_n 2, 1) := ge_iload_n_2 (by decide +kernel)
theorem d_X11_book_65 : decode prog_1_method_31_code 65 = .ok (.iconst 0, 1) := ge_iconst_0 (by decide +kernel)
theorem d_X11_book_66 : decode prog_1_method_31_code 66 = .ok (.invokevirtual 243, 3) := ge_invokevirtual (by decide +kernel)
theorem d_X11_book_69 : decode prog_1_method_31_code 69 = .ok (.ireturn, 1) := ge_ireturn (by decide +kernel)
def f_X11_book (a0 : Nat) (a1 : Int32) (a2 : Int32) (μ : gm_M) : Option (Option Value × gm_M) := if a1 ≠ (-1 : Int32) then if gm_tag μ a0 = 16 then gm_bI (f_X11_isNobody a0 a1 μ) (fun x2 m1 => if x2 = 0 then gm_bI (f_X11_isOutside a2 (0 : Int32) (999 : Int32) m1) (fun x4 m3 => if x4 = 0 then gm_gR m3 [16] a0 1 (fun v5 => gm_gR m3 [13] v5 9 (fun v6 => if gm_tag m3 v6 = 12 then gm_bI (f_X7_isFull v6 m3) (fun x8 m7 => if x8 = 0 then gm_gR m7 [16] a0 1 (fun v9 => gm_gR m7 [13] v9 9 (fun v10 => if gm_tag m7 v10 = 12 then gm_bI (f_X7_add v10 a1 a2 (0 : Int32) m7) (fun x12 m11 => some (some (.int x12), m11)) else none)) else some (some (.int (-4 : Int32)), m7)) else none)) else some (some (.int (-2 : Int32)), m3)) else some (some (.int (-1 : Int32)), m1)) else none else gm_gR μ [16] a0 1 (fun v13 => gm_gR μ [13] v13 9 (fun v14 => if gm_tag μ v14 = 12 then gm_bI (f_X7_clear v14 μ) (fun x16 m15 => some (some (.int x16), m15)) else none))
set_option maxHeartbeats 4000000 in
theorem c_X11_book (a0 : Nat) (a1 : Int32) (a2 : Int32) (μ : gm_M) : gm_Call ({ cls := "GumBubble", name := "book", desc := "(II)I" } : Jvm.MethodName) prog_1_method_31_code 3 (some .int) 2 0 0 [.ref a0, .int a1, .int a2] μ (f_X11_book a0 a1 a2 μ) := by
  refine gm_start PN_11 (Nat.le_of_ble_eq_true rfl) (fun res μe => ?_)
  unfold f_X11_book
  show gm_A "GumBubble" (gm_nm "book") _ _ _ _ _ _ _ _ _ 0 [(0, .ref a0), (1, .int a1), (2, .int a2)] [] _ _
  refine gm_iload_n d_X11_book_0 rfl 1 rfl ?_
  refine gm_iconst (v := -1) d_X11_book_1 (by decide) ?_
  refine gm_icmp_ne (tgt := 16) d_X11_book_2 (by decide) (fun h2 => ?_) (fun h2 => ?_)
  ·
    refine gm_aload_n d_X11_book_16 rfl 0 rfl ?_
    refine gm_iload_n d_X11_book_17 rfl 1 rfl ?_
    refine gm_grd (fun g18 => ?_)
    refine gm_callV (k0 := 11) [.int a1] (c_X11_isNobody a0 a1 μ) g18 rfl B_X11_isNobody gw_478 gs_11 rfl rfl rfl d_X11_book_18 (gm_kI (fun x2 m1 => ?_))
    refine gm_if_eq (tgt := 26) d_X11_book_21 (by decide) (fun h21 => ?_) (fun h21 => ?_)
    ·
      refine gm_iload_n d_X11_book_26 rfl 2 rfl ?_
      refine gm_iconst (v := 0) d_X11_book_27 (by decide) ?_
      refine gm_sipush (v := 999) d_X11_book_28 (by decide) ?_
      refine gm_callS [.int a2, .int (0 : Int32), .int (999 : Int32)] (c_X11_isOutside a2 (0 : Int32) (999 : Int32) m1) B_X11_isOutside gw_296 rfl rfl rfl d_X11_book_31 (gm_kI (fun x4 m3 => ?_))
      refine gm_if_eq (tgt := 40) d_X11_book_34 (by decide) (fun h34 => ?_) (fun h34 => ?_)
      ·
        refine gm_aload_n d_X11_book_40 rfl 0 rfl ?_
        refine gm_getR F_11_now gw_262 d_X11_book_41 (fun v5 _ => ?_)
        refine gm_getR F_8_book gw_237 d_X11_book_44 (fun v6 _ => ?_)
        refine gm_grd (fun g47 => ?_)
        refine gm_callV (k0 := 7) [] (c_X7_isFull v6 m3) g47 rfl B_X7_isFull gw_714 gw_716 rfl rfl rfl d_X11_book_47 (gm_kI (fun x8 m7 => ?_))
        refine gm_if_eq (tgt := 56) d_X11_book_50 (by decide) (fun h50 => ?_) (fun h50 => ?_)
        ·
          refine gm_aload_n d_X11_book_56 rfl 0 rfl ?_
          refine gm_getR F_11_now gw_262 d_X11_book_57 (fun v9 _ => ?_)
          refine gm_getR F_8_book gw_237 d_X11_book_60 (fun v10 _ => ?_)
          refine gm_iload_n d_X11_book_63 rfl 1 rfl ?_
          refine gm_iload_n d_X11_book_64 rfl 2 rfl ?_
          refine gm_iconst (v := 0) d_X11_book_65 (by decide) ?_
          refine gm_grd (fun g66 => ?_)
          refine gm_callV (k0 := 7) [.int a1, .int a2, .int (0 : Int32)] (c_X7_add v10 a1 a2 (0 : Int32) m7) g66 rfl B_X7_add gw_718 gw_720 rfl rfl rfl d_X11_book_66 (gm_kI (fun x12 m11 => ?_))
          exact gm_iret rfl d_X11_book_69 (Nat.le_of_ble_eq_true rfl) (Nat.le_of_ble_eq_true rfl) (fun h => h)
        ·
          refine gm_bipush (v := -4) d_X11_book_53 (by decide) ?_
          exact gm_iret rfl d_X11_book_55 (Nat.le_of_ble_eq_true rfl) (Nat.le_of_ble_eq_true rfl) (fun h => h)
      ·
        refine gm_bipush (v := -2) d_X11_book_37 (by decide) ?_
        exact gm_iret rfl d_X11_book_39 (Nat.le_of_ble_eq_true rfl) (Nat.le_of_ble_eq_true rfl) (fun h => h)
    ·
      refine gm_iconst (v := -1) d_X11_book_24 (by decide) ?_
      exact gm_iret rfl d_X11_book_25 (Nat.le_of_ble_eq_true rfl) (Nat.le_of_ble_eq_true rfl) (fun h => h)
  ·
    refine gm_aload_n d_X11_book_5 rfl 0 rfl ?_
    refine gm_getR F_11_now gw_262 d_X11_book_6 (fun v13 _ => ?_)
    refine gm_getR F_8_book gw_237 d_X11_book_9 (fun v14 _ => ?_)
    refine gm_grd (fun g12 => ?_)
    refine gm_callV (k0 := 7) [] (c_X7_clear v14 μ) g12 rfl B_X7_clear gw_710 gw_712 rfl rfl rfl d_X11_book_12 (gm_kI (fun x16 m15 => ?_))
    exact gm_iret rfl d_X11_book_15 (Nat.le_of_ble_eq_true rfl) (Nat.le_of_ble_eq_true rfl) (fun h => h)
theorem d_X11_breaths_0 : decode prog_1_method_15_code 0 = .ok (.aload_n 0, 1) := ge_aload_n_0 (by decide +kernel)
theorem d_X11_breaths_1 : decode prog_1_method_15_code 1 = .ok (.iload_n 1, 1) := ge_iload_n_1 (by decide +kernel)
theorem d_X11_breaths_2 : decode prog_1_method_15_code 2 = .ok (.invokevirtual 115, 3) := ge_invokevirtual (by decide +kernel)
theorem d_X11_breaths_5 : decode prog_1_method_15_code 5 = .ok (.ifCond .eq 5, 3) := ge_ifCond_eq (by decide +kernel)
theorem d_X11_breaths_8 : decode prog_1_method_15_code 8 = .ok (.iconst (-1), 1) := ge_iconst_m1_ (by decide +kernel)
theorem d_X11_breaths_9 : decode prog_1_method_15_code 9 = .ok (.ireturn, 1) := ge_ireturn (by decide +kernel)
theorem d_X11_breaths_10 : decode prog_1_method_15_code 10 = .ok (.iload_n 2, 1) := ge_iload_n_2 (by decide +kernel)
theorem d_X11_breaths_11 : decode prog_1_method_15_code 11 = .ok (.iconst 1, 1) := ge_iconst_1 (by decide +kernel)
theorem d_X11_breaths_12 : decode prog_1_method_15_code 12 = .ok (.bipush 99, 2) := ge_bipush (by decide +kernel)
theorem d_X11_breaths_14 : decode prog_1_method_15_code 14 = .ok (.invokestatic 76, 3) := ge_invokestatic (by decide +kernel)
theorem d_X11_breaths_17 : decode prog_1_method_15_code 17 = .ok (.ifCond .eq 6, 3) := ge_ifCond_eq (by decide +kernel)
theorem d_X11_breaths_20 : decode prog_1_method_15_code 20 = .ok (.bipush (-2), 2) := ge_bipush (by decide +kernel)
theorem d_X11_breaths_22 : decode prog_1_method_15_code 22 = .ok (.ireturn, 1) := ge_ireturn (by decide +kernel)
theorem d_X11_breaths_23 : decode prog_1_method_15_code 23 = .ok (.iconst 0, 1) := ge_iconst_0 (by decide +kernel)
theorem d_X11_breaths_24 : decode prog_1_method_15_code 24 = .ok (.aload_n 0, 1) := ge_aload_n_0 (by decide +kernel)
theorem d_X11_breaths_25 : decode prog_1_method_15_code 25 = .ok (.iload_n 1, 1) := ge_iload_n_1 (by decide +kernel)
theorem d_X11_breaths_26 : decode prog_1_method_15_code 26 = .ok (.invokevirtual 158, 3) := ge_invokevirtual (by decide +kernel)
theorem d_X11_breaths_29 : decode prog_1_method_15_code 29 = .ok (.aload_n 0, 1) := ge_aload_n_0 (by decide +kernel)
theorem d_X11_breaths_30 : decode prog_1_method_15_code 30 = .ok (.getfield 60, 3) := ge_getfield (by decide +kernel)
theorem d_X11_breaths_33 : decode prog_1_method_15_code 33 = .ok (.getfield 104, 3) := ge_getfield (by decide +kernel)
theorem d_X11_breaths_36 : decode prog_1_method_15_code 36 = .ok (.iload_n 1, 1) := ge_iload_n_1 (by decide +kernel)
theorem d_X11_breaths_37 : decode prog_1_method_15_code 37 = .ok (.aaload, 1) := ge_aaload (by decide +kernel)
theorem d_X11_breaths_38 : decode prog_1_method_15_code 38 = .ok (.getfield 138, 3) := ge_getfield (by decide +kernel)
theorem d_X11_breaths_41 : decode prog_1_method_15_code 41 = .ok (.isub, 1) := ge_isub (by decide +kernel)
theorem d_X11_breaths_42 : decode prog_1_method_15_code 42 = .ok (.invokestatic 197, 3) := ge_invokestatic (by decide +kernel)
theorem d_X11_breaths_45 : decode prog_1_method_15_code 45 = .ok (.iload_n 2, 1) := ge_iload_n_2 (by decide +kernel)
theorem d_X11_breaths_46 : decode prog_1_method_15_code 46 = .ok (.idiv, 1) := ge_idiv (by decide +kernel)
theorem d_X11_breaths_47 : decode prog_1_method_15_code 47 = .ok (.ireturn, 1) := ge_ireturn (by decide +kernel)
def f_X11_breaths (a0 : Nat) (a1 : Int32) (a2 : Int32) (μ : gm_M) : Option (Option Value × gm_M) := if gm_tag μ a0 = 16 then gm_bI (f_X11_isNobody a0 a1 μ) (fun x2 m1 => if x2 = 0 then gm_bI (f_X11_isOutside a2 (1 : Int32) (99 : Int32) m1) (fun x4 m3 => if x4 = 0 then if gm_tag m3 a0 = 16 then gm_bI (f_X11_holdsNow a0 a1 m3) (fun x6 m5 => gm_gR m5 [16] a0 1 (fun v7 => gm_gR m5 [13] v7 2 (fun v8 => gm_aR m5 4 v8 a1 (fun v9 => gm_gI m5 [7] v9 6 (fun v10 => if a2 = 0 then none else some (some (.int ((if (0 : Int32) < (x6 - v10) then (x6 - v10) else (0 : Int32)) / a2)), m5)))))) else none else some (some (.int (-2 : Int32)), m3)) else some (some (.int (-1 : Int32)), m1)) else none
set_option maxHeartbeats 4000000 in
theorem c_X11_breaths (a0 : Nat) (a1 : Int32) (a2 : Int32) (μ : gm_M) : gm_Call ({ cls := "GumBubble", name := "breaths", desc := "(II)I" } : Jvm.MethodName) prog_1_method_15_code 3 (some .int) 5 0 0 [.ref a0, .int a1, .int a2] μ (f_X11_breaths a0 a1 a2 μ) := by
  refine gm_start PN_11 (Nat.le_of_ble_eq_true rfl) (fun res μe => ?_)
  unfold f_X11_breaths
  show gm_A "GumBubble" (gm_nm "breaths") _ _ _ _ _ _ _ _ _ 0 [(0, .ref a0), (1, .int a1), (2, .int a2)] [] _ _
  refine gm_aload_n d_X11_breaths_0 rfl 0 rfl ?_
  refine gm_iload_n d_X11_breaths_1 rfl 1 rfl ?_
  refine gm_grd (fun g2 => ?_)
  refine gm_callV (k0 := 11) [.int a1] (c_X11_isNobody a0 a1 μ) g2 rfl B_X11_isNobody gw_478 gs_11 rfl rfl rfl d_X11_breaths_2 (gm_kI (fun x2 m1 => ?_))
  refine gm_if_eq (tgt := 10) d_X11_breaths_5 (by decide) (fun h5 => ?_) (fun h5 => ?_)
  ·
    refine gm_iload_n d_X11_breaths_10 rfl 2 rfl ?_
    refine gm_iconst (v := 1) d_X11_breaths_11 (by decide) ?_
    refine gm_bipush (v := 99) d_X11_breaths_12 (by decide) ?_
    refine gm_callS [.int a2, .int (1 : Int32), .int (99 : Int32)] (c_X11_isOutside a2 (1 : Int32) (99 : Int32) m1) B_X11_isOutside gw_296 rfl rfl rfl d_X11_breaths_14 (gm_kI (fun x4 m3 => ?_))
    refine gm_if_eq (tgt := 23) d_X11_breaths_17 (by decide) (fun h17 => ?_) (fun h17 => ?_)
    ·
      refine gm_iconst (v := 0) d_X11_breaths_23 (by decide) ?_
      refine gm_aload_n d_X11_breaths_24 rfl 0 rfl ?_
      refine gm_iload_n d_X11_breaths_25 rfl 1 rfl ?_
      refine gm_grd (fun g26 => ?_)
      refine gm_callV (k0 := 11) [.int a1] (c_X11_holdsNow a0 a1 m3) g26 rfl B_X11_holdsNow gw_541 gs_13 rfl rfl rfl d_X11_breaths_26 (gm_kI (fun x6 m5 => ?_))
      refine gm_aload_n d_X11_breaths_29 rfl 0 rfl ?_
      refine gm_getR F_11_now gw_262 d_X11_breaths_30 (fun v7 _ => ?_)
      refine gm_getR F_8_children gw_223 d_X11_breaths_33 (fun v8 _ => ?_)
      refine gm_iload_n d_X11_breaths_36 rfl 1 rfl ?_
      refine gm_aald (Or.inr rfl) d_X11_breaths_37 (fun v9 _ => ?_)
      refine gm_getI F_2_bubble gw_193 d_X11_breaths_38 (fun v10 _ => ?_)
      refine gm_isub d_X11_breaths_41 ?_
      refine gm_max gw_643 gw_38 gw_3 (show _ from gw_39) (Nat.le_of_ble_eq_true rfl) (Nat.le_of_ble_eq_true rfl) (Nat.le_of_ble_eq_true rfl) (Nat.le_of_ble_eq_true rfl) rfl d_X11_breaths_42 ?_
      refine gm_iload_n d_X11_breaths_45 rfl 2 rfl ?_
      refine gm_idiv d_X11_breaths_46 ?_
      exact gm_iret rfl d_X11_breaths_47 (Nat.le_of_ble_eq_true rfl) (Nat.le_of_ble_eq_true rfl) (fun h => h)
    ·
      refine gm_bipush (v := -2) d_X11_breaths_20 (by decide) ?_
      exact gm_iret rfl d_X11_breaths_22 (Nat.le_of_ble_eq_true rfl) (Nat.le_of_ble_eq_true rfl) (fun h => h)
  ·
    refine gm_iconst (v := -1) d_X11_breaths_8 (by decide) ?_
    exact gm_iret rfl d_X11_breaths_9 (Nat.le_of_ble_eq_true rfl) (Nat.le_of_ble_eq_true rfl) (fun h => h)
theorem d_X11_bubbleBits_0 : decode prog_1_method_41_code 0 = .ok (.iconst 0, 1) := ge_iconst_0 (by decide +kernel)
theorem d_X11_bubbleBits_1 : decode prog_1_method_41_code 1 = .ok (.istore_n 1, 1) := ge_istore_n_1 (by decide +kernel)
theorem d_X11_bubbleBits_2 : decode prog_1_method_41_code 2 = .ok (.iconst 0, 1) := ge_iconst_0 (by decide +kernel)
theorem d_X11_bubbleBits_3 : decode prog_1_method_41_code 3 = .ok (.istore_n 2, 1) := ge_istore_n_2 (by decide +kernel)
theorem d_X11_bubbleBits_4 : decode prog_1_method_41_code 4 = .ok (.iload_n 2, 1) := ge_iload_n_2 (by decide +kernel)
theorem d_X11_bubbleBits_5 : decode prog_1_method_41_code 5 = .ok (.aload_n 0, 1) := ge_aload_n_0 (by decide +kernel)
theorem d_X11_bubbleBits_6 : decode prog_1_method_41_code 6 = .ok (.getfield 60, 3) := ge_getfield (by decide +kernel)
theorem d_X11_bubbleBits_9 : decode prog_1_method_41_code 9 = .ok (.getfield 101, 3) := ge_getfield (by decide +kernel)
theorem d_X11_bubbleBits_12 : decode prog_1_method_41_code 12 = .ok (.if_icmp .ge 30, 3) := ge_if_icmp_ge (by decide +kernel)
theorem d_X11_bubbleBits_15 : decode prog_1_method_41_code 15 = .ok (.aload_n 0, 1) := ge_aload_n_0 (by decide +kernel)
theorem d_X11_bubbleBits_16 : decode prog_1_method_41_code 16 = .ok (.getfield 60, 3) := ge_getfield (by decide +kernel)
theorem d_X11_bubbleBits_19 : decode prog_1_method_41_code 19 = .ok (.getfield 104, 3) := ge_getfield (by decide +kernel)
theorem d_X11_bubbleBits_22 : decode prog_1_method_41_code 22 = .ok (.iload_n 2, 1) := ge_iload_n_2 (by decide +kernel)
theorem d_X11_bubbleBits_23 : decode prog_1_method_41_code 23 = .ok (.aaload, 1) := ge_aaload (by decide +kernel)
theorem d_X11_bubbleBits_24 : decode prog_1_method_41_code 24 = .ok (.getfield 138, 3) := ge_getfield (by decide +kernel)
theorem d_X11_bubbleBits_27 : decode prog_1_method_41_code 27 = .ok (.ifCond .le 9, 3) := ge_ifCond_le (by decide +kernel)
theorem d_X11_bubbleBits_30 : decode prog_1_method_41_code 30 = .ok (.iload_n 1, 1) := ge_iload_n_1 (by decide +kernel)
theorem d_X11_bubbleBits_31 : decode prog_1_method_41_code 31 = .ok (.iconst 1, 1) := ge_iconst_1 (by decide +kernel)
theorem d_X11_bubbleBits_32 : decode prog_1_method_41_code 32 = .ok (.iload_n 2, 1) := ge_iload_n_2 (by decide +kernel)
theorem d_X11_bubbleBits_33 : decode prog_1_method_41_code 33 = .ok (.ishl, 1) := ge_ishl (by decide +kernel)
theorem d_X11_bubbleBits_34 : decode prog_1_method_41_code 34 = .ok (.ior, 1) := ge_ior (by decide +kernel)
theorem d_X11_bubbleBits_35 : decode prog_1_method_41_code 35 = .ok (.istore_n 1, 1) := ge_istore_n_1 (by decide +kernel)
theorem d_X11_bubbleBits_36 : decode prog_1_method_41_code 36 = .ok (.iinc 2 1, 3) := ge_iinc (by decide +kernel)
theorem d_X11_bubbleBits_39 : decode prog_1_method_41_code 39 = .ok (.goto (-35), 3) := ge_goto (by decide +kernel)
theorem d_X11_bubbleBits_42 : decode prog_1_method_41_code 42 = .ok (.iload_n 1, 1) := ge_iload_n_1 (by decide +kernel)
theorem d_X11_bubbleBits_43 : decode prog_1_method_41_code 43 = .ok (.ireturn, 1) := ge_ireturn (by decide +kernel)
def f_X11_bubbleBits (a0 : Nat) (μ : gm_M) : Option (Option Value × gm_M) := gm_loop (fun (s1 : Int32 × Int32) => gm_gR μ [16] a0 1 (fun v2 => gm_gI μ [13] v2 1 (fun v3 => if v3 ≤ s1.2 then some (Sum.inr (some (.int s1.1), μ)) else gm_gR μ [16] a0 1 (fun v4 => gm_gR μ [13] v4 2 (fun v5 => gm_aR μ 4 v5 s1.2 (fun v6 => gm_gI μ [7] v6 6 (fun v7 => gm_j (fun (s8 : Int32) => some (Sum.inl (s8, (s1.2 + (1 : Int32))))) (fun j9 => if v7 ≤ 0 then j9 s1.1 else j9 (s1.1 ||| ((1 : Int32) <<< (s1.2 &&& 31))))))))))) 5000 ((0 : Int32), (0 : Int32))
set_option maxHeartbeats 4000000 in
theorem c_X11_bubbleBits (a0 : Nat) (μ : gm_M) : gm_Call ({ cls := "GumBubble", name := "bubbleBits", desc := "()I" } : Jvm.MethodName) prog_1_method_41_code 3 (some .int) 0 0 0 [.ref a0] μ (f_X11_bubbleBits a0 μ) := by
  refine gm_start PN_11 (Nat.le_of_ble_eq_true rfl) (fun res μe => ?_)
  unfold f_X11_bubbleBits
  show gm_A "GumBubble" (gm_nm "bubbleBits") _ _ _ _ _ _ _ _ _ 0 [(0, .ref a0)] [] _ _
  refine gm_iconst (v := 0) d_X11_bubbleBits_0 (by decide) ?_
  refine gm_istore_n (L' := [(1, .int (0 : Int32)), (0, .ref a0)]) d_X11_bubbleBits_1 rfl (Nat.le_of_ble_eq_true rfl) rfl ?_
  refine gm_iconst (v := 0) d_X11_bubbleBits_2 (by decide) ?_
  refine gm_istore_n (L' := [(2, .int (0 : Int32)), (1, .int (0 : Int32)), (0, .ref a0)]) d_X11_bubbleBits_3 rfl (Nat.le_of_ble_eq_true rfl) rfl ?_
  refine gm_sub (L' := [(0, .ref a0), (1, .int (0 : Int32)), (2, .int (0 : Int32))]) [2, 1, 0] rfl ?_
  refine gm_lp (S := Int32 × Int32) (fun _ => 0) (fun _ => 0) (fun s1 => μ) (fun s1 => [(0, .ref a0), (1, .int s1.1), (2, .int s1.2)]) (fun _ => []) (fun s1 => ?_) 5000 ((0 : Int32), (0 : Int32))
  refine gm_iload_n d_X11_bubbleBits_4 rfl 2 rfl ?_
  refine gm_aload_n d_X11_bubbleBits_5 rfl 0 rfl ?_
  refine gm_getR F_11_now gw_262 d_X11_bubbleBits_6 (fun v2 _ => ?_)
  refine gm_getI F_8_size gw_221 d_X11_bubbleBits_9 (fun v3 _ => ?_)
  refine gm_icmp_ge (tgt := 42) d_X11_bubbleBits_12 (by decide) (fun h12 => ?_) (fun h12 => ?_)
  ·
    refine gm_iload_n d_X11_bubbleBits_42 rfl 1 rfl ?_
    exact gm_iret rfl d_X11_bubbleBits_43 (Nat.le_of_ble_eq_true rfl) (Nat.le_of_ble_eq_true rfl) (fun h => h)
  ·
    refine gm_aload_n d_X11_bubbleBits_15 rfl 0 rfl ?_
    refine gm_getR F_11_now gw_262 d_X11_bubbleBits_16 (fun v4 _ => ?_)
    refine gm_getR F_8_children gw_223 d_X11_bubbleBits_19 (fun v5 _ => ?_)
    refine gm_iload_n d_X11_bubbleBits_22 rfl 2 rfl ?_
    refine gm_aald (Or.inr rfl) d_X11_bubbleBits_23 (fun v6 _ => ?_)
    refine gm_getI F_2_bubble gw_193 d_X11_bubbleBits_24 (fun v7 _ => ?_)
    refine gm_join (S := Int32) (pj := 36) (kj := 0) (nj := 0) (fun s8 => μ) (fun s8 => [(0, .ref a0), (1, .int s8), (2, .int s1.2)]) (fun s8 => []) (fun s8 => ?_) (fun j9 hj9 => ?_)
    ·
      refine gm_iinc (v := s1.2 + (1 : Int32)) (L' := [(2, .int (s1.2 + (1 : Int32))), (0, .ref a0), (1, .int s8)]) d_X11_bubbleBits_36 2 rfl rfl (Nat.le_of_ble_eq_true rfl) rfl ?_
      refine gm_goto (tgt := 4) d_X11_bubbleBits_39 (by decide) ?_
      refine gm_sub (L' := [(0, .ref a0), (1, .int s8), (2, .int (s1.2 + (1 : Int32)))]) [1, 2, 0] rfl ?_
      exact gm_back (fun h => h)
    ·
      refine gm_if_le (tgt := 36) d_X11_bubbleBits_27 (by decide) (fun h27 => ?_) (fun h27 => ?_)
      ·
        exact hj9 s1.1
      ·
        refine gm_iload_n d_X11_bubbleBits_30 rfl 1 rfl ?_
        refine gm_iconst (v := 1) d_X11_bubbleBits_31 (by decide) ?_
        refine gm_iload_n d_X11_bubbleBits_32 rfl 2 rfl ?_
        refine gm_ishl d_X11_bubbleBits_33 ?_
        refine gm_ior d_X11_bubbleBits_34 ?_
        refine gm_istore_n (L' := [(1, .int (s1.1 ||| ((1 : Int32) <<< (s1.2 &&& 31)))), (0, .ref a0), (2, .int s1.2)]) d_X11_bubbleBits_35 rfl (Nat.le_of_ble_eq_true rfl) rfl ?_
        refine gm_sub (L' := [(0, .ref a0), (1, .int (s1.1 ||| ((1 : Int32) <<< (s1.2 &&& 31)))), (2, .int s1.2)]) [1, 0, 2] rfl ?_
        exact hj9 (s1.1 ||| ((1 : Int32) <<< (s1.2 &&& 31)))
theorem d_X2_begin_0 : decode prog_4_method_2_code 0 = .ok (.aload_n 0, 1) := ge_aload_n_0 (by decide +kernel)
theorem d_X2_begin_1 : decode prog_4_method_2_code 1 = .ok (.aload_n 1, 1) := ge_aload_n_1 (by decide +kernel)
theorem d_X2_begin_2 : decode prog_4_method_2_code 2 = .ok (.putfield 19, 3) := ge_putfield (by decide +kernel)
theorem d_X2_begin_5 : decode prog_4_method_2_code 5 = .ok (.aload_n 0, 1) := ge_aload_n_0 (by decide +kernel)
theorem d_X2_begin_6 : decode prog_4_method_2_code 6 = .ok (.iload_n 2, 1) := ge_iload_n_2 (by decide +kernel)
theorem d_X2_begin_7 : decode prog_4_method_2_code 7 = .ok (.putfield 23, 3) := ge_putfield (by decide +kernel)
theorem d_X2_begin_10 : decode prog_4_method_2_code 10 = .ok (.aload_n 0, 1) := ge_aload_n_0 (by decide +kernel)
theorem d_X2_begin_11 : decode prog_4_method_2_code 11 = .ok (.iconst 1, 1) := ge_iconst_1 (by decide +kernel)
theorem d_X2_begin_12 : decode prog_4_method_2_code 12 = .ok (.putfield 26, 3) := ge_putfield (by decide +kernel)
theorem d_X2_begin_15 : decode prog_4_method_2_code 15 = .ok (.aload_n 0, 1) := ge_aload_n_0 (by decide +kernel)
theorem d_X2_begin_16 : decode prog_4_method_2_code 16 = .ok (.iload_n 3, 1) := ge_iload_n_3 (by decide +kernel)
theorem d_X2_begin_17 : decode prog_4_method_2_code 17 = .ok (.putfield 29, 3) := ge_putfield (by decide +kernel)
theorem d_X2_begin_20 : decode prog_4_method_2_code 20 = .ok (.aload_n 0, 1) := ge_aload_n_0 (by decide +kernel)
theorem d_X2_begin_21 : decode prog_4_method_2_code 21 = .ok (.iconst 0, 1) := ge_iconst_0 (by decide +kernel)
theorem d_X2_begin_22 : decode prog_4_method_2_code 22 = .ok (.putfield 32, 3) := ge_putfield (by decide +kernel)
theorem d_X2_begin_25 : decode prog_4_method_2_code 25 = .ok (.aload_n 0, 1) := ge_aload_n_0 (by decide +kernel)
theorem d_X2_begin_26 : decode prog_4_method_2_code 26 = .ok (.iconst 0, 1) := ge_iconst_0 (by decide +kernel)
theorem d_X2_begin_27 : decode prog_4_method_2_code 27 = .ok (.putfield 35, 3) := ge_putfield (by decide +kernel)
theorem d_X2_begin_30 : decode prog_4_method_2_code 30 = .ok (.aload_n 0, 1) := ge_aload_n_0 (by decide +kernel)
theorem d_X2_begin_31 : decode prog_4_method_2_code 31 = .ok (.iconst 0, 1) := ge_iconst_0 (by decide +kernel)
theorem d_X2_begin_32 : decode prog_4_method_2_code 32 = .ok (.putfield 38, 3) := ge_putfield (by decide +kernel)
theorem d_X2_begin_35 : decode prog_4_method_2_code 35 = .ok (.iconst 0, 1) := ge_iconst_0 (by decide +kernel)
theorem d_X2_begin_36 : decode prog_4_method_2_code 36 = .ok (.istore 4, 2) := ge_istore (by decide +kernel)
theorem d_X2_begin_38 : decode prog_4_method_2_code 38 = .ok (.iload 4, 2) := ge_iload (by decide +kernel)
theorem d_X2_begin_40 : decode prog_4_method_2_code 40 = .ok (.aload_n 0, 1) := ge_aload_n_0 (by decide +kernel)
theorem d_X2_begin_41 : decode prog_4_method_2_code 41 = .ok (.getfield 9, 3) := ge_getfield (by decide +kernel)
theorem d_X2_begin_44 : decode prog_4_method_2_code 44 = .ok (.arraylength, 1) := ge_arraylength (by decide +kernel)
theorem d_X2_begin_45 : decode prog_4_method_2_code 45 = .ok (.if_icmp .ge 17, 3) := ge_if_icmp_ge (by decide +kernel)
theorem d_X2_begin_48 : decode prog_4_method_2_code 48 = .ok (.aload_n 0, 1) := ge_aload_n_0 (by decide +kernel)
theorem d_X2_begin_49 : decode prog_4_method_2_code 49 = .ok (.getfield 9, 3) := ge_getfield (by decide +kernel)
theorem d_X2_begin_52 : decode prog_4_method_2_code 52 = .ok (.iload 4, 2) := ge_iload (by decide +kernel)
theorem d_X2_begin_54 : decode prog_4_method_2_code 54 = .ok (.iconst 0, 1) := ge_iconst_0 (by decide +kernel)
theorem d_X2_begin_55 : decode prog_4_method_2_code 55 = .ok (.iastore, 1) := ge_iastore (by decide +kernel)
theorem d_X2_begin_56 : decode prog_4_method_2_code 56 = .ok (.iinc 4 1, 3) := ge_iinc (by decide +kernel)
theorem d_X2_begin_59 : decode prog_4_method_2_code 59 = .ok (.goto (-21), 3) := ge_goto (by decide +kernel)
theorem d_X2_begin_62 : decode prog_4_method_2_code 62 = .ok (.return_, 1) := ge_return_ (by decide +kernel)
def f_X2_begin (a0 : Nat) (a1 : Nat) (a2 : Int32) (a3 : Int32) (μ : gm_M) : Option (Option Value × gm_M) := gm_pR μ [7] a0 1 a1 (fun m1 => gm_pI m1 [7] a0 2 a2 (fun m2 => gm_pI m2 [7] a0 3 (1 : Int32) (fun m3 => gm_pI m3 [7] a0 4 a3 (fun m4 => gm_pI m4 [7] a0 5 (0 : Int32) (fun m5 => gm_pI m5 [7] a0 6 (0 : Int32) (fun m6 => gm_pI m6 [7] a0 7 (0 : Int32) (fun m7 => gm_loop (fun (s8 : Int32 × gm_M) => gm_gR s8.2 [7] a0 8 (fun v9 => gm_al s8.2 1 v9 (fun v10 => if v10 ≤ s8.1 then some (Sum.inr (none, s8.2)) else gm_gR s8.2 [7] a0 8 (fun v11 => gm_sI s8.2 v11 s8.1 (0 : Int32) (fun m12 => some (Sum.inl ((s8.1 + (1 : Int32)), m12))))))) 5000 ((0 : Int32), m7))))))))
set_option maxHeartbeats 4000000 in
theorem c_X2_begin (a0 : Nat) (a1 : Nat) (a2 : Int32) (a3 : Int32) (μ : gm_M) : gm_Call ({ cls := "GumBubble$Child", name := "begin", desc := "(LGumBubble$Plain;II)V" } : Jvm.MethodName) prog_4_method_2_code 5 none 0 0 0 [.ref a0, .ref a1, .int a2, .int a3] μ (f_X2_begin a0 a1 a2 a3 μ) := by
  refine gm_start PN_2 (Nat.le_of_ble_eq_true rfl) (fun res μe => ?_)
  unfold f_X2_begin
  show gm_A "GumBubble$Child" (gm_nm "begin") _ _ _ _ _ _ _ _ _ 0 [(0, .ref a0), (1, .ref a1), (2, .int a2), (3, .int a3)] [] _ _
  refine gm_aload_n d_X2_begin_0 rfl 0 rfl ?_
  refine gm_aload_n d_X2_begin_1 rfl 1 rfl ?_
  refine gm_putR F_2_kind (Or.inl rfl) gw_171 d_X2_begin_2 (fun m1 _ => ?_)
  refine gm_aload_n d_X2_begin_5 rfl 0 rfl ?_
  refine gm_iload_n d_X2_begin_6 rfl 2 rfl ?_
  refine gm_putI F_2_v (Or.inl rfl) gw_175 d_X2_begin_7 (fun m2 _ => ?_)
  refine gm_aload_n d_X2_begin_10 rfl 0 rfl ?_
  refine gm_iconst (v := 1) d_X2_begin_11 (by decide) ?_
  refine gm_putI F_2_pieces (Or.inl rfl) gw_180 d_X2_begin_12 (fun m3 _ => ?_)
  refine gm_aload_n d_X2_begin_15 rfl 0 rfl ?_
  refine gm_iload_n d_X2_begin_16 rfl 3 rfl ?_
  refine gm_putI F_2_sugar (Or.inl rfl) gw_187 d_X2_begin_17 (fun m4 _ => ?_)
  refine gm_aload_n d_X2_begin_20 rfl 0 rfl ?_
  refine gm_iconst (v := 0) d_X2_begin_21 (by decide) ?_
  refine gm_putI F_2_jaw (Or.inl rfl) gw_190 d_X2_begin_22 (fun m5 _ => ?_)
  refine gm_aload_n d_X2_begin_25 rfl 0 rfl ?_
  refine gm_iconst (v := 0) d_X2_begin_26 (by decide) ?_
  refine gm_putI F_2_bubble (Or.inl rfl) gw_192 d_X2_begin_27 (fun m6 _ => ?_)
  refine gm_aload_n d_X2_begin_30 rfl 0 rfl ?_
  refine gm_iconst (v := 0) d_X2_begin_31 (by decide) ?_
  refine gm_putI F_2_hair (Or.inl rfl) gw_194 d_X2_begin_32 (fun m7 _ => ?_)
  refine gm_iconst (v := 0) d_X2_begin_35 (by decide) ?_
  refine gm_istore (L' := [(4, .int (0 : Int32)), (0, .ref a0), (1, .ref a1), (2, .int a2), (3, .int a3)]) d_X2_begin_36 (Nat.le_of_ble_eq_true rfl) rfl ?_
  refine gm_sub (L' := [(0, .ref a0), (1, .ref a1), (2, .int a2), (3, .int a3), (4, .int (0 : Int32))]) [1, 2, 3, 4, 0] rfl ?_
  refine gm_lp (S := Int32 × gm_M) (fun _ => 0) (fun _ => 0) (fun s8 => s8.2) (fun s8 => [(0, .ref a0), (1, .ref a1), (2, .int a2), (3, .int a3), (4, .int s8.1)]) (fun _ => []) (fun s8 => ?_) 5000 ((0 : Int32), m7)
  refine gm_iload d_X2_begin_38 4 rfl ?_
  refine gm_aload_n d_X2_begin_40 rfl 0 rfl ?_
  refine gm_getR F_2_row gw_196 d_X2_begin_41 (fun v9 _ => ?_)
  refine gm_alen (Or.inl rfl) d_X2_begin_44 (fun v10 _ => ?_)
  refine gm_icmp_ge (tgt := 62) d_X2_begin_45 (by decide) (fun h45 => ?_) (fun h45 => ?_)
  ·
    exact gm_vret rfl d_X2_begin_62 (Nat.le_of_ble_eq_true rfl) (Nat.le_of_ble_eq_true rfl) (fun h => h)
  ·
    refine gm_aload_n d_X2_begin_48 rfl 0 rfl ?_
    refine gm_getR F_2_row gw_196 d_X2_begin_49 (fun v11 _ => ?_)
    refine gm_iload d_X2_begin_52 4 rfl ?_
    refine gm_iconst (v := 0) d_X2_begin_54 (by decide) ?_
    refine gm_iast d_X2_begin_55 (fun m12 _ => ?_)
    refine gm_iinc (v := s8.1 + (1 : Int32)) (L' := [(4, .int (s8.1 + (1 : Int32))), (0, .ref a0), (1, .ref a1), (2, .int a2), (3, .int a3)]) d_X2_begin_56 4 rfl rfl (Nat.le_of_ble_eq_true rfl) rfl ?_
    refine gm_goto (tgt := 38) d_X2_begin_59 (by decide) ?_
    refine gm_sub (L' := [(0, .ref a0), (1, .ref a1), (2, .int a2), (3, .int a3), (4, .int (s8.1 + (1 : Int32)))]) [1, 2, 3, 4, 0] rfl ?_
    exact gm_back (fun h => h)
theorem d_X11_child_0 : decode prog_1_method_4_code 0 = .ok (.iload_n 1, 1) := ge_iload_n_1 (by decide +kernel)
theorem d_X11_child_1 : decode prog_1_method_4_code 1 = .ok (.iconst 0, 1) := ge_iconst_0 (by decide +kernel)
theorem d_X11_child_2 : decode prog_1_method_4_code 2 = .ok (.bipush 6, 2) := ge_bipush (by decide +kernel)
theorem d_X11_child_4 : decode prog_1_method_4_code 4 = .ok (.invokestatic 76, 3) := ge_invokestatic (by decide +kernel)
theorem d_X11_child_7 : decode prog_1_method_4_code 7 = .ok (.ifCond .eq 5, 3) := ge_ifCond_eq (by decide +kernel)
theorem d_X11_child_10 : decode prog_1_method_4_code 10 = .ok (.iconst (-1), 1) := ge_iconst_m1_ (by decide +kernel)
theorem d_X11_child_11 : decode prog_1_method_4_code 11 = .ok (.ireturn, 1) := ge_ireturn (by decide +kernel)
theorem d_X11_child_12 : decode prog_1_method_4_code 12 = .ok (.iload_n 2, 1) := ge_iload_n_2 (by decide +kernel)
theorem d_X11_child_13 : decode prog_1_method_4_code 13 = .ok (.iconst 0, 1) := ge_iconst_0 (by decide +kernel)
theorem d_X11_child_14 : decode prog_1_method_4_code 14 = .ok (.bipush 9, 2) := ge_bipush (by decide +kernel)
theorem d_X11_child_16 : decode prog_1_method_4_code 16 = .ok (.invokestatic 76, 3) := ge_invokestatic (by decide +kernel)
theorem d_X11_child_19 : decode prog_1_method_4_code 19 = .ok (.ifCond .eq 6, 3) := ge_ifCond_eq (by decide +kernel)
theorem d_X11_child_22 : decode prog_1_method_4_code 22 = .ok (.bipush (-2), 2) := ge_bipush (by decide +kernel)
theorem d_X11_child_24 : decode prog_1_method_4_code 24 = .ok (.ireturn, 1) := ge_ireturn (by decide +kernel)
theorem d_X11_child_25 : decode prog_1_method_4_code 25 = .ok (.aload_n 0, 1) := ge_aload_n_0 (by decide +kernel)
theorem d_X11_child_26 : decode prog_1_method_4_code 26 = .ok (.getfield 60, 3) := ge_getfield (by decide +kernel)
theorem d_X11_child_29 : decode prog_1_method_4_code 29 = .ok (.getfield 101, 3) := ge_getfield (by decide +kernel)
theorem d_X11_child_32 : decode prog_1_method_4_code 32 = .ok (.iconst 5, 1) := ge_iconst_5 (by decide +kernel)
theorem d_X11_child_33 : decode prog_1_method_4_code 33 = .ok (.if_icmp .lt 6, 3) := ge_if_icmp_lt (by decide +kernel)
theorem d_X11_child_36 : decode prog_1_method_4_code 36 = .ok (.bipush (-4), 2) := ge_bipush (by decide +kernel)
theorem d_X11_child_38 : decode prog_1_method_4_code 38 = .ok (.ireturn, 1) := ge_ireturn (by decide +kernel)
theorem d_X11_child_39 : decode prog_1_method_4_code 39 = .ok (.aload_n 0, 1) := ge_aload_n_0 (by decide +kernel)
theorem d_X11_child_40 : decode prog_1_method_4_code 40 = .ok (.getfield 60, 3) := ge_getfield (by decide +kernel)
theorem d_X11_child_43 : decode prog_1_method_4_code 43 = .ok (.getfield 104, 3) := ge_getfield (by decide +kernel)
theorem d_X11_child_46 : decode prog_1_method_4_code 46 = .ok (.aload_n 0, 1) := ge_aload_n_0 (by decide +kernel)
theorem d_X11_child_47 : decode prog_1_method_4_code 47 = .ok (.getfield 60, 3) := ge_getfield (by decide +kernel)
theorem d_X11_child_50 : decode prog_1_method_4_code 50 = .ok (.getfield 101, 3) := ge_getfield (by decide +kernel)
theorem d_X11_child_53 : decode prog_1_method_4_code 53 = .ok (.aaload, 1) := ge_aaload (by decide +kernel)
theorem d_X11_child_54 : decode prog_1_method_4_code 54 = .ok (.aload_n 0, 1) := ge_aload_n_0 (by decide +kernel)
theorem d_X11_child_55 : decode prog_1_method_4_code 55 = .ok (.getfield 13, 3) := ge_getfield (by decide +kernel)
theorem d_X11_child_58 : decode prog_1_method_4_code 58 = .ok (.iload_n 1, 1) := ge_iload_n_1 (by decide +kernel)
theorem d_X11_child_59 : decode prog_1_method_4_code 59 = .ok (.aaload, 1) := ge_aaload (by decide +kernel)
theorem d_X11_child_60 : decode prog_1_method_4_code 60 = .ok (.iload_n 2, 1) := ge_iload_n_2 (by decide +kernel)
theorem d_X11_child_61 : decode prog_1_method_4_code 61 = .ok (.aload_n 0, 1) := ge_aload_n_0 (by decide +kernel)
theorem d_X11_child_62 : decode prog_1_method_4_code 62 = .ok (.getfield 60, 3) := ge_getfield (by decide +kernel)
theorem d_X11_child_65 : decode prog_1_method_4_code 65 = .ok (.getfield 97, 3) := ge_getfield (by decide +kernel)
theorem d_X11_child_68 : decode prog_1_method_4_code 68 = .ok (.getfield 108, 3) := ge_getfield (by decide +kernel)
theorem d_X11_child_71 : decode prog_1_method_4_code 71 = .ok (.invokevirtual 111, 3) := ge_invokevirtual (by decide +kernel)
theorem d_X11_child_74 : decode prog_1_method_4_code 74 = .ok (.aload_n 0, 1) := ge_aload_n_0 (by decide +kernel)
theorem d_X11_child_75 : decode prog_1_method_4_code 75 = .ok (.getfield 60, 3) := ge_getfield (by decide +kernel)
theorem d_X11_child_78 : decode prog_1_method_4_code 78 = .ok (.dup, 1) := ge_dup (by decide +kernel)
theorem d_X11_child_79 : decode prog_1_method_4_code 79 = .ok (.getfield 101, 3) := ge_getfield (by decide +kernel)
theorem d_X11_child_82 : decode prog_1_method_4_code 82 = .ok (.iconst 1, 1) := ge_iconst_1 (by decide +kernel)
theorem d_X11_child_83 : decode prog_1_method_4_code 83 = .ok (.iadd, 1) := ge_iadd (by decide +kernel)
theorem d_X11_child_84 : decode prog_1_method_4_code 84 = .ok (.putfield 101, 3) := ge_putfield (by decide +kernel)
theorem d_X11_child_87 : decode prog_1_method_4_code 87 = .ok (.aload_n 0, 1) := ge_aload_n_0 (by decide +kernel)
theorem d_X11_child_88 : decode prog_1_method_4_code 88 = .ok (.getfield 60, 3) := ge_getfield (by decide +kernel)
theorem d_X11_child_91 : decode prog_1_method_4_code 91 = .ok (.getfield 101, 3) := ge_getfield (by decide +kernel)
theorem d_X11_child_94 : decode prog_1_method_4_code 94 = .ok (.iconst 1, 1) := ge_iconst_1 (by decide +kernel)
theorem d_X11_child_95 : decode prog_1_method_4_code 95 = .ok (.isub, 1) := ge_isub (by decide +kernel)
theorem d_X11_child_96 : decode prog_1_method_4_code 96 = .ok (.ireturn, 1) := ge_ireturn (by decide +kernel)
def f_X11_child (a0 : Nat) (a1 : Int32) (a2 : Int32) (μ : gm_M) : Option (Option Value × gm_M) := gm_bI (f_X11_isOutside a1 (0 : Int32) (6 : Int32) μ) (fun x2 m1 => if x2 = 0 then gm_bI (f_X11_isOutside a2 (0 : Int32) (9 : Int32) m1) (fun x4 m3 => if x4 = 0 then gm_gR m3 [16] a0 1 (fun v5 => gm_gI m3 [13] v5 1 (fun v6 => if v6 < (5 : Int32) then gm_gR m3 [16] a0 1 (fun v7 => gm_gR m3 [13] v7 2 (fun v8 => gm_gR m3 [16] a0 1 (fun v9 => gm_gI m3 [13] v9 1 (fun v10 => gm_aR m3 4 v8 v10 (fun v11 => gm_gR m3 [16] a0 0 (fun v12 => gm_aR m3 3 v12 a1 (fun v13 => gm_gR m3 [16] a0 1 (fun v14 => gm_gR m3 [13] v14 6 (fun v15 => gm_gI m3 [5] v15 1 (fun v16 => if gm_tag m3 v11 = 7 then gm_bV (f_X2_begin v11 v13 a2 v16 m3) (fun m17 => gm_gR m17 [16] a0 1 (fun v19 => gm_gI m17 [13] v19 1 (fun v20 => gm_pI m17 [13] v19 1 (v20 + (1 : Int32)) (fun m21 => gm_gR m21 [16] a0 1 (fun v22 => gm_gI m21 [13] v22 1 (fun v23 => some (some (.int (v23 - (1 : Int32))), m21))))))) else none)))))))))) else some (some (.int (-4 : Int32)), m3))) else some (some (.int (-2 : Int32)), m3)) else some (some (.int (-1 : Int32)), m1))
set_option maxHeartbeats 4000000 in
theorem c_X11_child (a0 : Nat) (a1 : Int32) (a2 : Int32) (μ : gm_M) : gm_Call ({ cls := "GumBubble", name := "child", desc := "(II)I" } : Jvm.MethodName) prog_1_method_4_code 3 (some .int) 1 0 0 [.ref a0, .int a1, .int a2] μ (f_X11_child a0 a1 a2 μ) := by
  refine gm_start PN_11 (Nat.le_of_ble_eq_true rfl) (fun res μe => ?_)
  unfold f_X11_child
  show gm_A "GumBubble" (gm_nm "child") _ _ _ _ _ _ _ _ _ 0 [(0, .ref a0), (1, .int a1), (2, .int a2)] [] _ _
  refine gm_iload_n d_X11_child_0 rfl 1 rfl ?_
  refine gm_iconst (v := 0) d_X11_child_1 (by decide) ?_
  refine gm_bipush (v := 6) d_X11_child_2 (by decide) ?_
  refine gm_callS [.int a1, .int (0 : Int32), .int (6 : Int32)] (c_X11_isOutside a1 (0 : Int32) (6 : Int32) μ) B_X11_isOutside gw_296 rfl rfl rfl d_X11_child_4 (gm_kI (fun x2 m1 => ?_))
  refine gm_if_eq (tgt := 12) d_X11_child_7 (by decide) (fun h7 => ?_) (fun h7 => ?_)
  ·
    refine gm_iload_n d_X11_child_12 rfl 2 rfl ?_
    refine gm_iconst (v := 0) d_X11_child_13 (by decide) ?_
    refine gm_bipush (v := 9) d_X11_child_14 (by decide) ?_
    refine gm_callS [.int a2, .int (0 : Int32), .int (9 : Int32)] (c_X11_isOutside a2 (0 : Int32) (9 : Int32) m1) B_X11_isOutside gw_296 rfl rfl rfl d_X11_child_16 (gm_kI (fun x4 m3 => ?_))
    refine gm_if_eq (tgt := 25) d_X11_child_19 (by decide) (fun h19 => ?_) (fun h19 => ?_)
    ·
      refine gm_aload_n d_X11_child_25 rfl 0 rfl ?_
      refine gm_getR F_11_now gw_262 d_X11_child_26 (fun v5 _ => ?_)
      refine gm_getI F_8_size gw_221 d_X11_child_29 (fun v6 _ => ?_)
      refine gm_iconst (v := 5) d_X11_child_32 (by decide) ?_
      refine gm_icmp_lt (tgt := 39) d_X11_child_33 (by decide) (fun h33 => ?_) (fun h33 => ?_)
      ·
        refine gm_aload_n d_X11_child_39 rfl 0 rfl ?_
        refine gm_getR F_11_now gw_262 d_X11_child_40 (fun v7 _ => ?_)
        refine gm_getR F_8_children gw_223 d_X11_child_43 (fun v8 _ => ?_)
        refine gm_aload_n d_X11_child_46 rfl 0 rfl ?_
        refine gm_getR F_11_now gw_262 d_X11_child_47 (fun v9 _ => ?_)
        refine gm_getI F_8_size gw_221 d_X11_child_50 (fun v10 _ => ?_)
        refine gm_aald (Or.inr rfl) d_X11_child_53 (fun v11 _ => ?_)
        refine gm_aload_n d_X11_child_54 rfl 0 rfl ?_
        refine gm_getR F_11_kinds gw_261 d_X11_child_55 (fun v12 _ => ?_)
        refine gm_iload_n d_X11_child_58 rfl 1 rfl ?_
        refine gm_aald (Or.inl rfl) d_X11_child_59 (fun v13 _ => ?_)
        refine gm_iload_n d_X11_child_60 rfl 2 rfl ?_
        refine gm_aload_n d_X11_child_61 rfl 0 rfl ?_
        refine gm_getR F_11_now gw_262 d_X11_child_62 (fun v14 _ => ?_)
        refine gm_getR F_8_afternoon gw_231 d_X11_child_65 (fun v15 _ => ?_)
        refine gm_getI F_0_sweet gw_129 d_X11_child_68 (fun v16 _ => ?_)
        refine gm_grd (fun g71 => ?_)
        refine gm_callV (k0 := 2) [.ref v13, .int a2, .int v16] (c_X2_begin v11 v13 a2 v16 m3) g71 rfl B_X2_begin gw_470 gw_472 rfl rfl rfl d_X11_child_71 (gm_kV (fun m17 => ?_))
        refine gm_aload_n d_X11_child_74 rfl 0 rfl ?_
        refine gm_getR F_11_now gw_262 d_X11_child_75 (fun v19 _ => ?_)
        refine gm_dup d_X11_child_78 rfl ?_
        refine gm_getI F_8_size gw_221 d_X11_child_79 (fun v20 _ => ?_)
        refine gm_iconst (v := 1) d_X11_child_82 (by decide) ?_
        refine gm_iadd d_X11_child_83 ?_
        refine gm_putI F_8_size (Or.inl rfl) gw_221 d_X11_child_84 (fun m21 _ => ?_)
        refine gm_aload_n d_X11_child_87 rfl 0 rfl ?_
        refine gm_getR F_11_now gw_262 d_X11_child_88 (fun v22 _ => ?_)
        refine gm_getI F_8_size gw_221 d_X11_child_91 (fun v23 _ => ?_)
        refine gm_iconst (v := 1) d_X11_child_94 (by decide) ?_
        refine gm_isub d_X11_child_95 ?_
        exact gm_iret rfl d_X11_child_96 (Nat.le_of_ble_eq_true rfl) (Nat.le_of_ble_eq_true rfl) (fun h => h)
      ·
        refine gm_bipush (v := -4) d_X11_child_36 (by decide) ?_
        exact gm_iret rfl d_X11_child_38 (Nat.le_of_ble_eq_true rfl) (Nat.le_of_ble_eq_true rfl) (fun h => h)
    ·
      refine gm_bipush (v := -2) d_X11_child_22 (by decide) ?_
      exact gm_iret rfl d_X11_child_24 (Nat.le_of_ble_eq_true rfl) (Nat.le_of_ble_eq_true rfl) (fun h => h)
  ·
    refine gm_iconst (v := -1) d_X11_child_10 (by decide) ?_
    exact gm_iret rfl d_X11_child_11 (Nat.le_of_ble_eq_true rfl) (Nat.le_of_ble_eq_true rfl) (fun h => h)
theorem d_X11_clean_0 : decode prog_1_method_23_code 0 = .ok (.aload_n 0, 1) := ge_aload_n_0 (by decide +kernel)
theorem d_X11_clean_1 : decode prog_1_method_23_code 1 = .ok (.iload_n 1, 1) := ge_iload_n_1 (by decide +kernel)
theorem d_X11_clean_2 : decode prog_1_method_23_code 2 = .ok (.invokevirtual 115, 3) := ge_invokevirtual (by decide +kernel)
theorem d_X11_clean_5 : decode prog_1_method_23_code 5 = .ok (.ifCond .eq 5, 3) := ge_ifCond_eq (by decide +kernel)
theorem d_X11_clean_8 : decode prog_1_method_23_code 8 = .ok (.iconst (-1), 1) := ge_iconst_m1_ (by decide +kernel)
theorem d_X11_clean_9 : decode prog_1_method_23_code 9 = .ok (.ireturn, 1) := ge_ireturn (by decide +kernel)
theorem d_X11_clean_10 : decode prog_1_method_23_code 10 = .ok (.iload_n 2, 1) := ge_iload_n_2 (by decide +kernel)
theorem d_X11_clean_11 : decode prog_1_method_23_code 11 = .ok (.iconst 1, 1) := ge_iconst_1 (by decide +kernel)
theorem d_X11_clean_12 : decode prog_1_method_23_code 12 = .ok (.bipush 99, 2) := ge_bipush (by decide +kernel)
theorem d_X11_clean_14 : decode prog_1_method_23_code 14 = .ok (.invokestatic 76, 3) := ge_invokestatic (by decide +kernel)
theorem d_X11_clean_17 : decode prog_1_method_23_code 17 = .ok (.ifCond .eq 6, 3) := ge_ifCond_eq (by decide +kernel)
theorem d_X11_clean_20 : decode prog_1_method_23_code 20 = .ok (.bipush (-2), 2) := ge_bipush (by decide +kernel)
theorem d_X11_clean_22 : decode prog_1_method_23_code 22 = .ok (.ireturn, 1) := ge_ireturn (by decide +kernel)
theorem d_X11_clean_23 : decode prog_1_method_23_code 23 = .ok (.aload_n 0, 1) := ge_aload_n_0 (by decide +kernel)
theorem d_X11_clean_24 : decode prog_1_method_23_code 24 = .ok (.getfield 60, 3) := ge_getfield (by decide +kernel)
theorem d_X11_clean_27 : decode prog_1_method_23_code 27 = .ok (.getfield 104, 3) := ge_getfield (by decide +kernel)
theorem d_X11_clean_30 : decode prog_1_method_23_code 30 = .ok (.iload_n 1, 1) := ge_iload_n_1 (by decide +kernel)
theorem d_X11_clean_31 : decode prog_1_method_23_code 31 = .ok (.aaload, 1) := ge_aaload (by decide +kernel)
theorem d_X11_clean_32 : decode prog_1_method_23_code 32 = .ok (.getfield 141, 3) := ge_getfield (by decide +kernel)
theorem d_X11_clean_35 : decode prog_1_method_23_code 35 = .ok (.iload_n 2, 1) := ge_iload_n_2 (by decide +kernel)
theorem d_X11_clean_36 : decode prog_1_method_23_code 36 = .ok (.iadd, 1) := ge_iadd (by decide +kernel)
theorem d_X11_clean_37 : decode prog_1_method_23_code 37 = .ok (.iconst 1, 1) := ge_iconst_1 (by decide +kernel)
theorem d_X11_clean_38 : decode prog_1_method_23_code 38 = .ok (.isub, 1) := ge_isub (by decide +kernel)
theorem d_X11_clean_39 : decode prog_1_method_23_code 39 = .ok (.iload_n 2, 1) := ge_iload_n_2 (by decide +kernel)
theorem d_X11_clean_40 : decode prog_1_method_23_code 40 = .ok (.idiv, 1) := ge_idiv (by decide +kernel)
theorem d_X11_clean_41 : decode prog_1_method_23_code 41 = .ok (.ireturn, 1) := ge_ireturn (by decide +kernel)
def f_X11_clean (a0 : Nat) (a1 : Int32) (a2 : Int32) (μ : gm_M) : Option (Option Value × gm_M) := if gm_tag μ a0 = 16 then gm_bI (f_X11_isNobody a0 a1 μ) (fun x2 m1 => if x2 = 0 then gm_bI (f_X11_isOutside a2 (1 : Int32) (99 : Int32) m1) (fun x4 m3 => if x4 = 0 then gm_gR m3 [16] a0 1 (fun v5 => gm_gR m3 [13] v5 2 (fun v6 => gm_aR m3 4 v6 a1 (fun v7 => gm_gI m3 [7] v7 7 (fun v8 => if a2 = 0 then none else some (some (.int (((v8 + a2) - (1 : Int32)) / a2)), m3))))) else some (some (.int (-2 : Int32)), m3)) else some (some (.int (-1 : Int32)), m1)) else none
set_option maxHeartbeats 4000000 in
theorem c_X11_clean (a0 : Nat) (a1 : Int32) (a2 : Int32) (μ : gm_M) : gm_Call ({ cls := "GumBubble", name := "clean", desc := "(II)I" } : Jvm.MethodName) prog_1_method_23_code 3 (some .int) 2 0 0 [.ref a0, .int a1, .int a2] μ (f_X11_clean a0 a1 a2 μ) := by
  refine gm_start PN_11 (Nat.le_of_ble_eq_true rfl) (fun res μe => ?_)
  unfold f_X11_clean
  show gm_A "GumBubble" (gm_nm "clean") _ _ _ _ _ _ _ _ _ 0 [(0, .ref a0), (1, .int a1), (2, .int a2)] [] _ _
  refine gm_aload_n d_X11_clean_0 rfl 0 rfl ?_
  refine gm_iload_n d_X11_clean_1 rfl 1 rfl ?_
  refine gm_grd (fun g2 => ?_)
  refine gm_callV (k0 := 11) [.int a1] (c_X11_isNobody a0 a1 μ) g2 rfl B_X11_isNobody gw_478 gs_11 rfl rfl rfl d_X11_clean_2 (gm_kI (fun x2 m1 => ?_))
  refine gm_if_eq (tgt := 10) d_X11_clean_5 (by decide) (fun h5 => ?_) (fun h5 => ?_)
  ·
    refine gm_iload_n d_X11_clean_10 rfl 2 rfl ?_
    refine gm_iconst (v := 1) d_X11_clean_11 (by decide) ?_
    refine gm_bipush (v := 99) d_X11_clean_12 (by decide) ?_
    refine gm_callS [.int a2, .int (1 : Int32), .int (99 : Int32)] (c_X11_isOutside a2 (1 : Int32) (99 : Int32) m1) B_X11_isOutside gw_296 rfl rfl rfl d_X11_clean_14 (gm_kI (fun x4 m3 => ?_))
    refine gm_if_eq (tgt := 23) d_X11_clean_17 (by decide) (fun h17 => ?_) (fun h17 => ?_)
    ·
      refine gm_aload_n d_X11_clean_23 rfl 0 rfl ?_
      refine gm_getR F_11_now gw_262 d_X11_clean_24 (fun v5 _ => ?_)
      refine gm_getR F_8_children gw_223 d_X11_clean_27 (fun v6 _ => ?_)
      refine gm_iload_n d_X11_clean_30 rfl 1 rfl ?_
      refine gm_aald (Or.inr rfl) d_X11_clean_31 (fun v7 _ => ?_)
      refine gm_getI F_2_hair gw_195 d_X11_clean_32 (fun v8 _ => ?_)
      refine gm_iload_n d_X11_clean_35 rfl 2 rfl ?_
      refine gm_iadd d_X11_clean_36 ?_
      refine gm_iconst (v := 1) d_X11_clean_37 (by decide) ?_
      refine gm_isub d_X11_clean_38 ?_
      refine gm_iload_n d_X11_clean_39 rfl 2 rfl ?_
      refine gm_idiv d_X11_clean_40 ?_
      exact gm_iret rfl d_X11_clean_41 (Nat.le_of_ble_eq_true rfl) (Nat.le_of_ble_eq_true rfl) (fun h => h)
    ·
      refine gm_bipush (v := -2) d_X11_clean_20 (by decide) ?_
      exact gm_iret rfl d_X11_clean_22 (Nat.le_of_ble_eq_true rfl) (Nat.le_of_ble_eq_true rfl) (fun h => h)
  ·
    refine gm_iconst (v := -1) d_X11_clean_8 (by decide) ?_
    exact gm_iret rfl d_X11_clean_9 (Nat.le_of_ble_eq_true rfl) (Nat.le_of_ble_eq_true rfl) (fun h => h)
theorem d_X11_count_0 : decode prog_1_method_38_code 0 = .ok (.iload_n 1, 1) := ge_iload_n_1 (by decide +kernel)
theorem d_X11_count_1 : decode prog_1_method_38_code 1 = .ok (.tableswitch 108 0 6 #[43, 51, 59, 70, 81, 92, 100], 43) := by decide +kernel
theorem d_X11_count_44 : decode prog_1_method_38_code 44 = .ok (.aload_n 0, 1) := ge_aload_n_0 (by decide +kernel)
theorem d_X11_count_45 : decode prog_1_method_38_code 45 = .ok (.getfield 60, 3) := ge_getfield (by decide +kernel)
theorem d_X11_count_48 : decode prog_1_method_38_code 48 = .ok (.getfield 101, 3) := ge_getfield (by decide +kernel)
theorem d_X11_count_51 : decode prog_1_method_38_code 51 = .ok (.ireturn, 1) := ge_ireturn (by decide +kernel)
theorem d_X11_count_52 : decode prog_1_method_38_code 52 = .ok (.aload_n 0, 1) := ge_aload_n_0 (by decide +kernel)
theorem d_X11_count_53 : decode prog_1_method_38_code 53 = .ok (.getfield 60, 3) := ge_getfield (by decide +kernel)
theorem d_X11_count_56 : decode prog_1_method_38_code 56 = .ok (.getfield 87, 3) := ge_getfield (by decide +kernel)
theorem d_X11_count_59 : decode prog_1_method_38_code 59 = .ok (.ireturn, 1) := ge_ireturn (by decide +kernel)
theorem d_X11_count_60 : decode prog_1_method_38_code 60 = .ok (.aload_n 0, 1) := ge_aload_n_0 (by decide +kernel)
theorem d_X11_count_61 : decode prog_1_method_38_code 61 = .ok (.getfield 60, 3) := ge_getfield (by decide +kernel)
theorem d_X11_count_64 : decode prog_1_method_38_code 64 = .ok (.getfield 233, 3) := ge_getfield (by decide +kernel)
theorem d_X11_count_67 : decode prog_1_method_38_code 67 = .ok (.getfield 259, 3) := ge_getfield (by decide +kernel)
theorem d_X11_count_70 : decode prog_1_method_38_code 70 = .ok (.ireturn, 1) := ge_ireturn (by decide +kernel)
theorem d_X11_count_71 : decode prog_1_method_38_code 71 = .ok (.aload_n 0, 1) := ge_aload_n_0 (by decide +kernel)
theorem d_X11_count_72 : decode prog_1_method_38_code 72 = .ok (.getfield 60, 3) := ge_getfield (by decide +kernel)
theorem d_X11_count_75 : decode prog_1_method_38_code 75 = .ok (.getfield 250, 3) := ge_getfield (by decide +kernel)
theorem d_X11_count_78 : decode prog_1_method_38_code 78 = .ok (.getfield 259, 3) := ge_getfield (by decide +kernel)
theorem d_X11_count_81 : decode prog_1_method_38_code 81 = .ok (.ireturn, 1) := ge_ireturn (by decide +kernel)
theorem d_X11_count_82 : decode prog_1_method_38_code 82 = .ok (.aload_n 0, 1) := ge_aload_n_0 (by decide +kernel)
theorem d_X11_count_83 : decode prog_1_method_38_code 83 = .ok (.getfield 60, 3) := ge_getfield (by decide +kernel)
theorem d_X11_count_86 : decode prog_1_method_38_code 86 = .ok (.getfield 256, 3) := ge_getfield (by decide +kernel)
theorem d_X11_count_89 : decode prog_1_method_38_code 89 = .ok (.getfield 259, 3) := ge_getfield (by decide +kernel)
theorem d_X11_count_92 : decode prog_1_method_38_code 92 = .ok (.ireturn, 1) := ge_ireturn (by decide +kernel)
theorem d_X11_count_93 : decode prog_1_method_38_code 93 = .ok (.aload_n 0, 1) := ge_aload_n_0 (by decide +kernel)
theorem d_X11_count_94 : decode prog_1_method_38_code 94 = .ok (.getfield 60, 3) := ge_getfield (by decide +kernel)
theorem d_X11_count_97 : decode prog_1_method_38_code 97 = .ok (.getfield 80, 3) := ge_getfield (by decide +kernel)
theorem d_X11_count_100 : decode prog_1_method_38_code 100 = .ok (.ireturn, 1) := ge_ireturn (by decide +kernel)
theorem d_X11_count_101 : decode prog_1_method_38_code 101 = .ok (.aload_n 0, 1) := ge_aload_n_0 (by decide +kernel)
theorem d_X11_count_102 : decode prog_1_method_38_code 102 = .ok (.getfield 22, 3) := ge_getfield (by decide +kernel)
theorem d_X11_count_105 : decode prog_1_method_38_code 105 = .ok (.getfield 259, 3) := ge_getfield (by decide +kernel)
theorem d_X11_count_108 : decode prog_1_method_38_code 108 = .ok (.ireturn, 1) := ge_ireturn (by decide +kernel)
theorem d_X11_count_109 : decode prog_1_method_38_code 109 = .ok (.iconst (-1), 1) := ge_iconst_m1_ (by decide +kernel)
theorem d_X11_count_110 : decode prog_1_method_38_code 110 = .ok (.ireturn, 1) := ge_ireturn (by decide +kernel)
def f_X11_count (a0 : Nat) (a1 : Int32) (μ : gm_M) : Option (Option Value × gm_M) := if a1 = 0 then gm_gR μ [16] a0 1 (fun v1 => gm_gI μ [13] v1 1 (fun v2 => some (some (.int v2), μ))) else if a1 = 1 then gm_gR μ [16] a0 1 (fun v3 => gm_gI μ [13] v3 5 (fun v4 => some (some (.int v4), μ))) else if a1 = 2 then gm_gR μ [16] a0 1 (fun v5 => gm_gR μ [13] v5 7 (fun v6 => gm_gI μ [12] v6 2 (fun v7 => some (some (.int v7), μ)))) else if a1 = 3 then gm_gR μ [16] a0 1 (fun v8 => gm_gR μ [13] v8 8 (fun v9 => gm_gI μ [12] v9 2 (fun v10 => some (some (.int v10), μ)))) else if a1 = 4 then gm_gR μ [16] a0 1 (fun v11 => gm_gR μ [13] v11 9 (fun v12 => gm_gI μ [12] v12 2 (fun v13 => some (some (.int v13), μ)))) else if a1 = 5 then gm_gR μ [16] a0 1 (fun v14 => gm_gI μ [13] v14 4 (fun v15 => some (some (.int v15), μ))) else if a1 = 6 then gm_gR μ [16] a0 4 (fun v16 => gm_gI μ [12] v16 2 (fun v17 => some (some (.int v17), μ))) else some (some (.int (-1 : Int32)), μ)
set_option maxHeartbeats 4000000 in
theorem c_X11_count (a0 : Nat) (a1 : Int32) (μ : gm_M) : gm_Call ({ cls := "GumBubble", name := "count", desc := "(I)I" } : Jvm.MethodName) prog_1_method_38_code 2 (some .int) 0 0 0 [.ref a0, .int a1] μ (f_X11_count a0 a1 μ) := by
  refine gm_start PN_11 (Nat.le_of_ble_eq_true rfl) (fun res μe => ?_)
  unfold f_X11_count
  show gm_A "GumBubble" (gm_nm "count") _ _ _ _ _ _ _ _ _ 0 [(0, .ref a0), (1, .int a1)] [] _ _
  refine gm_iload_n d_X11_count_0 rfl 1 rfl ?_
  refine gm_ite (P := a1 = 0) (fun h1_0 => ?_) (fun h1_0 => ?_)
  ·
    refine gm_swIn (v := 0) (off := 43) (tgt := 44) d_X11_count_1 (by rw [h1_0] <;> rfl) (by decide) (by decide) (by decide) (by decide) ?_
    refine gm_aload_n d_X11_count_44 rfl 0 rfl ?_
    refine gm_getR F_11_now gw_262 d_X11_count_45 (fun v1 _ => ?_)
    refine gm_getI F_8_size gw_221 d_X11_count_48 (fun v2 _ => ?_)
    exact gm_iret rfl d_X11_count_51 (Nat.le_of_ble_eq_true rfl) (Nat.le_of_ble_eq_true rfl) (fun h => h)
  ·
    refine gm_ite (P := a1 = 1) (fun h1_1 => ?_) (fun h1_1 => ?_)
    ·
      refine gm_swIn (v := 1) (off := 51) (tgt := 52) d_X11_count_1 (by rw [h1_1] <;> rfl) (by decide) (by decide) (by decide) (by decide) ?_
      refine gm_aload_n d_X11_count_52 rfl 0 rfl ?_
      refine gm_getR F_11_now gw_262 d_X11_count_53 (fun v3 _ => ?_)
      refine gm_getI F_8_afternoons gw_229 d_X11_count_56 (fun v4 _ => ?_)
      exact gm_iret rfl d_X11_count_59 (Nat.le_of_ble_eq_true rfl) (Nat.le_of_ble_eq_true rfl) (fun h => h)
    ·
      refine gm_ite (P := a1 = 2) (fun h1_2 => ?_) (fun h1_2 => ?_)
      ·
        refine gm_swIn (v := 2) (off := 59) (tgt := 60) d_X11_count_1 (by rw [h1_2] <;> rfl) (by decide) (by decide) (by decide) (by decide) ?_
        refine gm_aload_n d_X11_count_60 rfl 0 rfl ?_
        refine gm_getR F_11_now gw_262 d_X11_count_61 (fun v5 _ => ?_)
        refine gm_getR F_8_seen gw_233 d_X11_count_64 (fun v6 _ => ?_)
        refine gm_getI F_7_count gw_43 d_X11_count_67 (fun v7 _ => ?_)
        exact gm_iret rfl d_X11_count_70 (Nat.le_of_ble_eq_true rfl) (Nat.le_of_ble_eq_true rfl) (fun h => h)
      ·
        refine gm_ite (P := a1 = 3) (fun h1_3 => ?_) (fun h1_3 => ?_)
        ·
          refine gm_swIn (v := 3) (off := 70) (tgt := 71) d_X11_count_1 (by rw [h1_3] <;> rfl) (by decide) (by decide) (by decide) (by decide) ?_
          refine gm_aload_n d_X11_count_71 rfl 0 rfl ?_
          refine gm_getR F_11_now gw_262 d_X11_count_72 (fun v8 _ => ?_)
          refine gm_getR F_8_plan gw_235 d_X11_count_75 (fun v9 _ => ?_)
          refine gm_getI F_7_count gw_43 d_X11_count_78 (fun v10 _ => ?_)
          exact gm_iret rfl d_X11_count_81 (Nat.le_of_ble_eq_true rfl) (Nat.le_of_ble_eq_true rfl) (fun h => h)
        ·
          refine gm_ite (P := a1 = 4) (fun h1_4 => ?_) (fun h1_4 => ?_)
          ·
            refine gm_swIn (v := 4) (off := 81) (tgt := 82) d_X11_count_1 (by rw [h1_4] <;> rfl) (by decide) (by decide) (by decide) (by decide) ?_
            refine gm_aload_n d_X11_count_82 rfl 0 rfl ?_
            refine gm_getR F_11_now gw_262 d_X11_count_83 (fun v11 _ => ?_)
            refine gm_getR F_8_book gw_237 d_X11_count_86 (fun v12 _ => ?_)
            refine gm_getI F_7_count gw_43 d_X11_count_89 (fun v13 _ => ?_)
            exact gm_iret rfl d_X11_count_92 (Nat.le_of_ble_eq_true rfl) (Nat.le_of_ble_eq_true rfl) (fun h => h)
          ·
            refine gm_ite (P := a1 = 5) (fun h1_5 => ?_) (fun h1_5 => ?_)
            ·
              refine gm_swIn (v := 5) (off := 92) (tgt := 93) d_X11_count_1 (by rw [h1_5] <;> rfl) (by decide) (by decide) (by decide) (by decide) ?_
              refine gm_aload_n d_X11_count_93 rfl 0 rfl ?_
              refine gm_getR F_11_now gw_262 d_X11_count_94 (fun v14 _ => ?_)
              refine gm_getI F_8_tapeSize gw_226 d_X11_count_97 (fun v15 _ => ?_)
              exact gm_iret rfl d_X11_count_100 (Nat.le_of_ble_eq_true rfl) (Nat.le_of_ble_eq_true rfl) (fun h => h)
            ·
              refine gm_ite (P := a1 = 6) (fun h1_6 => ?_) (fun h1_6 => ?_)
              ·
                refine gm_swIn (v := 6) (off := 100) (tgt := 101) d_X11_count_1 (by rw [h1_6] <;> rfl) (by decide) (by decide) (by decide) (by decide) ?_
                refine gm_aload_n d_X11_count_101 rfl 0 rfl ?_
                refine gm_getR F_11_trace gw_265 d_X11_count_102 (fun v16 _ => ?_)
                refine gm_getI F_7_count gw_43 d_X11_count_105 (fun v17 _ => ?_)
                exact gm_iret rfl d_X11_count_108 (Nat.le_of_ble_eq_true rfl) (Nat.le_of_ble_eq_true rfl) (fun h => h)
              ·
                refine gm_swOut (tgt := 109) d_X11_count_1 (by have g0 := lv_neT h1_0 (show (0 : Int32).toInt = 0 from rfl); have g1 := lv_neT h1_1 (show (1 : Int32).toInt = 1 from rfl); have g2 := lv_neT h1_2 (show (2 : Int32).toInt = 2 from rfl); have g3 := lv_neT h1_3 (show (3 : Int32).toInt = 3 from rfl); have g4 := lv_neT h1_4 (show (4 : Int32).toInt = 4 from rfl); have g5 := lv_neT h1_5 (show (5 : Int32).toInt = 5 from rfl); have g6 := lv_neT h1_6 (show (6 : Int32).toInt = 6 from rfl); omega) (by decide) ?_
                refine gm_iconst (v := -1) d_X11_count_109 (by decide) ?_
                exact gm_iret rfl d_X11_count_110 (Nat.le_of_ble_eq_true rfl) (Nat.le_of_ble_eq_true rfl) (fun h => h)
theorem d_X11_thinsBearing_0 : decode prog_1_method_48_code 0 = .ok (.bipush 10, 2) := ge_bipush (by decide +kernel)
theorem d_X11_thinsBearing_2 : decode prog_1_method_48_code 2 = .ok (.iload_n 0, 1) := ge_iload_n_0 (by decide +kernel)
theorem d_X11_thinsBearing_3 : decode prog_1_method_48_code 3 = .ok (.iload_n 1, 1) := ge_iload_n_1 (by decide +kernel)
theorem d_X11_thinsBearing_4 : decode prog_1_method_48_code 4 = .ok (.invokestatic 217, 3) := ge_invokestatic (by decide +kernel)
theorem d_X11_thinsBearing_7 : decode prog_1_method_48_code 7 = .ok (.isub, 1) := ge_isub (by decide +kernel)
theorem d_X11_thinsBearing_8 : decode prog_1_method_48_code 8 = .ok (.ireturn, 1) := ge_ireturn (by decide +kernel)
def f_X11_thinsBearing (a0 : Int32) (a1 : Int32) (μ : gm_M) : Option (Option Value × gm_M) := gm_bI (f_X11_thinsBelow a0 a1 μ) (fun x2 m1 => some (some (.int ((10 : Int32) - x2)), m1))
set_option maxHeartbeats 4000000 in
theorem c_X11_thinsBearing (a0 : Int32) (a1 : Int32) (μ : gm_M) : gm_Call ({ cls := "GumBubble", name := "thinsBearing", desc := "(II)I" } : Jvm.MethodName) prog_1_method_48_code 2 (some .int) 3 0 0 [.int a0, .int a1] μ (f_X11_thinsBearing a0 a1 μ) := by
  refine gm_start PN_11 (Nat.le_of_ble_eq_true rfl) (fun res μe => ?_)
  unfold f_X11_thinsBearing
  show gm_A "GumBubble" (gm_nm "thinsBearing") _ _ _ _ _ _ _ _ _ 0 [(0, .int a0), (1, .int a1)] [] _ _
  refine gm_bipush (v := 10) d_X11_thinsBearing_0 (by decide) ?_
  refine gm_iload_n d_X11_thinsBearing_2 rfl 0 rfl ?_
  refine gm_iload_n d_X11_thinsBearing_3 rfl 1 rfl ?_
  refine gm_callS [.int a0, .int a1] (c_X11_thinsBelow a0 a1 μ) B_X11_thinsBelow gw_656 rfl rfl rfl d_X11_thinsBearing_4 (gm_kI (fun x2 m1 => ?_))
  refine gm_isub d_X11_thinsBearing_7 ?_
  exact gm_iret rfl d_X11_thinsBearing_8 (Nat.le_of_ble_eq_true rfl) (Nat.le_of_ble_eq_true rfl) (fun h => h)
theorem d_X11_dare_0 : decode prog_1_method_18_code 0 = .ok (.aload_n 0, 1) := ge_aload_n_0 (by decide +kernel)
theorem d_X11_dare_1 : decode prog_1_method_18_code 1 = .ok (.iload_n 1, 1) := ge_iload_n_1 (by decide +kernel)
theorem d_X11_dare_2 : decode prog_1_method_18_code 2 = .ok (.invokevirtual 115, 3) := ge_invokevirtual (by decide +kernel)
theorem d_X11_dare_5 : decode prog_1_method_18_code 5 = .ok (.ifCond .eq 5, 3) := ge_ifCond_eq (by decide +kernel)
theorem d_X11_dare_8 : decode prog_1_method_18_code 8 = .ok (.iconst (-1), 1) := ge_iconst_m1_ (by decide +kernel)
theorem d_X11_dare_9 : decode prog_1_method_18_code 9 = .ok (.ireturn, 1) := ge_ireturn (by decide +kernel)
theorem d_X11_dare_10 : decode prog_1_method_18_code 10 = .ok (.aload_n 0, 1) := ge_aload_n_0 (by decide +kernel)
theorem d_X11_dare_11 : decode prog_1_method_18_code 11 = .ok (.iload_n 1, 1) := ge_iload_n_1 (by decide +kernel)
theorem d_X11_dare_12 : decode prog_1_method_18_code 12 = .ok (.invokevirtual 158, 3) := ge_invokevirtual (by decide +kernel)
theorem d_X11_dare_15 : decode prog_1_method_18_code 15 = .ok (.istore_n 2, 1) := ge_istore_n_2 (by decide +kernel)
theorem d_X11_dare_16 : decode prog_1_method_18_code 16 = .ok (.iconst 0, 1) := ge_iconst_0 (by decide +kernel)
theorem d_X11_dare_17 : decode prog_1_method_18_code 17 = .ok (.istore_n 3, 1) := ge_istore_n_3 (by decide +kernel)
theorem d_X11_dare_18 : decode prog_1_method_18_code 18 = .ok (.iconst 0, 1) := ge_iconst_0 (by decide +kernel)
theorem d_X11_dare_19 : decode prog_1_method_18_code 19 = .ok (.istore 4, 2) := ge_istore (by decide +kernel)
theorem d_X11_dare_21 : decode prog_1_method_18_code 21 = .ok (.bipush 9, 2) := ge_bipush (by decide +kernel)
theorem d_X11_dare_23 : decode prog_1_method_18_code 23 = .ok (.istore 5, 2) := ge_istore (by decide +kernel)
theorem d_X11_dare_25 : decode prog_1_method_18_code 25 = .ok (.iload 5, 2) := ge_iload (by decide +kernel)
theorem d_X11_dare_27 : decode prog_1_method_18_code 27 = .ok (.ifCond .lt 47, 3) := ge_ifCond_lt (by decide +kernel)
theorem d_X11_dare_30 : decode prog_1_method_18_code 30 = .ok (.sipush 999, 3) := ge_sipush (by decide +kernel)
theorem d_X11_dare_33 : decode prog_1_method_18_code 33 = .ok (.iload_n 2, 1) := ge_iload_n_2 (by decide +kernel)
theorem d_X11_dare_34 : decode prog_1_method_18_code 34 = .ok (.iload 5, 2) := ge_iload (by decide +kernel)
theorem d_X11_dare_36 : decode prog_1_method_18_code 36 = .ok (.invokestatic 211, 3) := ge_invokestatic (by decide +kernel)
theorem d_X11_dare_39 : decode prog_1_method_18_code 39 = .ok (.invokestatic 214, 3) := ge_invokestatic (by decide +kernel)
theorem d_X11_dare_42 : decode prog_1_method_18_code 42 = .ok (.istore 6, 2) := ge_istore (by decide +kernel)
theorem d_X11_dare_44 : decode prog_1_method_18_code 44 = .ok (.iload 6, 2) := ge_iload (by decide +kernel)
theorem d_X11_dare_46 : decode prog_1_method_18_code 46 = .ok (.iload_n 2, 1) := ge_iload_n_2 (by decide +kernel)
theorem d_X11_dare_47 : decode prog_1_method_18_code 47 = .ok (.iload 6, 2) := ge_iload (by decide +kernel)
theorem d_X11_dare_49 : decode prog_1_method_18_code 49 = .ok (.invokestatic 204, 3) := ge_invokestatic (by decide +kernel)
theorem d_X11_dare_52 : decode prog_1_method_18_code 52 = .ok (.imul, 1) := ge_imul (by decide +kernel)
theorem d_X11_dare_53 : decode prog_1_method_18_code 53 = .ok (.istore 7, 2) := ge_istore (by decide +kernel)
theorem d_X11_dare_55 : decode prog_1_method_18_code 55 = .ok (.iload 7, 2) := ge_iload (by decide +kernel)
theorem d_X11_dare_57 : decode prog_1_method_18_code 57 = .ok (.iload_n 3, 1) := ge_iload_n_3 (by decide +kernel)
theorem d_X11_dare_58 : decode prog_1_method_18_code 58 = .ok (.if_icmp .le 10, 3) := ge_if_icmp_le (by decide +kernel)
theorem d_X11_dare_61 : decode prog_1_method_18_code 61 = .ok (.iload 7, 2) := ge_iload (by decide +kernel)
theorem d_X11_dare_63 : decode prog_1_method_18_code 63 = .ok (.istore_n 3, 1) := ge_istore_n_3 (by decide +kernel)
theorem d_X11_dare_64 : decode prog_1_method_18_code 64 = .ok (.iload 6, 2) := ge_iload (by decide +kernel)
theorem d_X11_dare_66 : decode prog_1_method_18_code 66 = .ok (.istore 4, 2) := ge_istore (by decide +kernel)
theorem d_X11_dare_68 : decode prog_1_method_18_code 68 = .ok (.iinc 5 (-1), 3) := ge_iinc (by decide +kernel)
theorem d_X11_dare_71 : decode prog_1_method_18_code 71 = .ok (.goto (-46), 3) := ge_goto (by decide +kernel)
theorem d_X11_dare_74 : decode prog_1_method_18_code 74 = .ok (.iload 4, 2) := ge_iload (by decide +kernel)
theorem d_X11_dare_76 : decode prog_1_method_18_code 76 = .ok (.ireturn, 1) := ge_ireturn (by decide +kernel)
def f_X11_dare (a0 : Nat) (a1 : Int32) (μ : gm_M) : Option (Option Value × gm_M) := if gm_tag μ a0 = 16 then gm_bI (f_X11_isNobody a0 a1 μ) (fun x2 m1 => if x2 = 0 then if gm_tag m1 a0 = 16 then gm_bI (f_X11_holdsNow a0 a1 m1) (fun x4 m3 => gm_loop (fun (s5 : Int32 × Int32 × Int32 × gm_M) => if s5.2.2.1 < 0 then some (Sum.inr (some (.int s5.2.1), s5.2.2.2)) else gm_bI (f_X11_thinned x4 s5.2.2.1 s5.2.2.2) (fun x7 m6 => gm_bI (f_X11_thinsBearing x4 (if x7 < (999 : Int32) then x7 else (999 : Int32)) m6) (fun x10 m9 => gm_j (fun (s11 : Int32 × Int32) => some (Sum.inl (s11.1, s11.2, (s5.2.2.1 + (-1 : Int32)), m9))) (fun j12 => if ((if x7 < (999 : Int32) then x7 else (999 : Int32)) * x10) ≤ s5.1 then j12 (s5.1, s5.2.1) else j12 (((if x7 < (999 : Int32) then x7 else (999 : Int32)) * x10), (if x7 < (999 : Int32) then x7 else (999 : Int32))))))) 5000 ((0 : Int32), (0 : Int32), (9 : Int32), m3)) else none else some (some (.int (-1 : Int32)), m1)) else none
set_option maxHeartbeats 4000000 in
theorem c_X11_dare (a0 : Nat) (a1 : Int32) (μ : gm_M) : gm_Call ({ cls := "GumBubble", name := "dare", desc := "(I)I" } : Jvm.MethodName) prog_1_method_18_code 8 (some .int) 5 0 0 [.ref a0, .int a1] μ (f_X11_dare a0 a1 μ) := by
  refine gm_start PN_11 (Nat.le_of_ble_eq_true rfl) (fun res μe => ?_)
  unfold f_X11_dare
  show gm_A "GumBubble" (gm_nm "dare") _ _ _ _ _ _ _ _ _ 0 [(0, .ref a0), (1, .int a1)] [] _ _
  refine gm_aload_n d_X11_dare_0 rfl 0 rfl ?_
  refine gm_iload_n d_X11_dare_1 rfl 1 rfl ?_
  refine gm_grd (fun g2 => ?_)
  refine gm_callV (k0 := 11) [.int a1] (c_X11_isNobody a0 a1 μ) g2 rfl B_X11_isNobody gw_478 gs_11 rfl rfl rfl d_X11_dare_2 (gm_kI (fun x2 m1 => ?_))
  refine gm_if_eq (tgt := 10) d_X11_dare_5 (by decide) (fun h5 => ?_) (fun h5 => ?_)
  ·
    refine gm_aload_n d_X11_dare_10 rfl 0 rfl ?_
    refine gm_iload_n d_X11_dare_11 rfl 1 rfl ?_
    refine gm_grd (fun g12 => ?_)
    refine gm_callV (k0 := 11) [.int a1] (c_X11_holdsNow a0 a1 m1) g12 rfl B_X11_holdsNow gw_541 gs_13 rfl rfl rfl d_X11_dare_12 (gm_kI (fun x4 m3 => ?_))
    refine gm_istore_n (L' := [(2, .int x4), (0, .ref a0), (1, .int a1)]) d_X11_dare_15 rfl (Nat.le_of_ble_eq_true rfl) rfl ?_
    refine gm_iconst (v := 0) d_X11_dare_16 (by decide) ?_
    refine gm_istore_n (L' := [(3, .int (0 : Int32)), (2, .int x4), (0, .ref a0), (1, .int a1)]) d_X11_dare_17 rfl (Nat.le_of_ble_eq_true rfl) rfl ?_
    refine gm_iconst (v := 0) d_X11_dare_18 (by decide) ?_
    refine gm_istore (L' := [(4, .int (0 : Int32)), (3, .int (0 : Int32)), (2, .int x4), (0, .ref a0), (1, .int a1)]) d_X11_dare_19 (Nat.le_of_ble_eq_true rfl) rfl ?_
    refine gm_bipush (v := 9) d_X11_dare_21 (by decide) ?_
    refine gm_istore (L' := [(5, .int (9 : Int32)), (4, .int (0 : Int32)), (3, .int (0 : Int32)), (2, .int x4), (0, .ref a0), (1, .int a1)]) d_X11_dare_23 (Nat.le_of_ble_eq_true rfl) rfl ?_
    refine gm_sub (L' := [(0, .ref a0), (1, .int a1), (2, .int x4), (3, .int (0 : Int32)), (4, .int (0 : Int32)), (5, .int (9 : Int32))]) [4, 5, 3, 2, 1, 0] rfl ?_
    refine gm_lp (S := Int32 × Int32 × Int32 × gm_M) (fun _ => 0) (fun _ => 0) (fun s5 => s5.2.2.2) (fun s5 => [(0, .ref a0), (1, .int a1), (2, .int x4), (3, .int s5.1), (4, .int s5.2.1), (5, .int s5.2.2.1)]) (fun _ => []) (fun s5 => ?_) 5000 ((0 : Int32), (0 : Int32), (9 : Int32), m3)
    refine gm_iload d_X11_dare_25 5 rfl ?_
    refine gm_if_lt (tgt := 74) d_X11_dare_27 (by decide) (fun h27 => ?_) (fun h27 => ?_)
    ·
      refine gm_iload d_X11_dare_74 4 rfl ?_
      exact gm_iret rfl d_X11_dare_76 (Nat.le_of_ble_eq_true rfl) (Nat.le_of_ble_eq_true rfl) (fun h => h)
    ·
      refine gm_sipush (v := 999) d_X11_dare_30 (by decide) ?_
      refine gm_iload_n d_X11_dare_33 rfl 2 rfl ?_
      refine gm_iload d_X11_dare_34 5 rfl ?_
      refine gm_callS [.int x4, .int s5.2.2.1] (c_X11_thinned x4 s5.2.2.1 s5.2.2.2) B_X11_thinned gw_659 rfl rfl rfl d_X11_dare_36 (gm_kI (fun x7 m6 => ?_))
      refine gm_min gw_672 gw_310 gw_3 (show _ from gw_311) (Nat.le_of_ble_eq_true rfl) (Nat.le_of_ble_eq_true rfl) (Nat.le_of_ble_eq_true rfl) (Nat.le_of_ble_eq_true rfl) rfl d_X11_dare_39 ?_
      refine gm_istore (L' := [(6, .int (if x7 < (999 : Int32) then x7 else (999 : Int32))), (0, .ref a0), (1, .int a1), (2, .int x4), (3, .int s5.1), (4, .int s5.2.1), (5, .int s5.2.2.1)]) d_X11_dare_42 (Nat.le_of_ble_eq_true rfl) rfl ?_
      refine gm_iload d_X11_dare_44 0 rfl ?_
      refine gm_iload_n d_X11_dare_46 rfl 3 rfl ?_
      refine gm_iload d_X11_dare_47 0 rfl ?_
      refine gm_callS [.int x4, .int (if x7 < (999 : Int32) then x7 else (999 : Int32))] (c_X11_thinsBearing x4 (if x7 < (999 : Int32) then x7 else (999 : Int32)) m6) B_X11_thinsBearing gw_653 rfl rfl rfl d_X11_dare_49 (gm_kI (fun x10 m9 => ?_))
      refine gm_imul d_X11_dare_52 ?_
      refine gm_istore (L' := [(7, .int ((if x7 < (999 : Int32) then x7 else (999 : Int32)) * x10)), (6, .int (if x7 < (999 : Int32) then x7 else (999 : Int32))), (0, .ref a0), (1, .int a1), (2, .int x4), (3, .int s5.1), (4, .int s5.2.1), (5, .int s5.2.2.1)]) d_X11_dare_53 (Nat.le_of_ble_eq_true rfl) rfl ?_
      refine gm_iload d_X11_dare_55 0 rfl ?_
      refine gm_iload_n d_X11_dare_57 rfl 5 rfl ?_
      refine gm_join (S := Int32 × Int32) (pj := 68) (kj := 0) (nj := 0) (fun s11 => m9) (fun s11 => [(0, .ref a0), (1, .int a1), (2, .int x4), (3, .int s11.1), (4, .int s11.2), (5, .int s5.2.2.1), (6, .int (if x7 < (999 : Int32) then x7 else (999 : Int32))), (7, .int ((if x7 < (999 : Int32) then x7 else (999 : Int32)) * x10))]) (fun s11 => []) (fun s11 => ?_) (fun j12 hj12 => ?_)
      ·
        refine gm_iinc (v := s5.2.2.1 + (-1 : Int32)) (L' := [(5, .int (s5.2.2.1 + (-1 : Int32))), (0, .ref a0), (1, .int a1), (2, .int x4), (3, .int s11.1), (4, .int s11.2), (6, .int (if x7 < (999 : Int32) then x7 else (999 : Int32))), (7, .int ((if x7 < (999 : Int32) then x7 else (999 : Int32)) * x10))]) d_X11_dare_68 5 rfl rfl (Nat.le_of_ble_eq_true rfl) rfl ?_
        refine gm_goto (tgt := 25) d_X11_dare_71 (by decide) ?_
        refine gm_sub (L' := [(0, .ref a0), (1, .int a1), (2, .int x4), (3, .int s11.1), (4, .int s11.2), (5, .int (s5.2.2.1 + (-1 : Int32)))]) [1, 2, 3, 4, 5, 0] rfl ?_
        exact gm_back (fun h => h)
      ·
        refine gm_icmp_le (tgt := 68) d_X11_dare_58 (by decide) (fun h58 => ?_) (fun h58 => ?_)
        ·
          refine gm_sub (L' := [(0, .ref a0), (1, .int a1), (2, .int x4), (3, .int s5.1), (4, .int s5.2.1), (5, .int s5.2.2.1), (6, .int (if x7 < (999 : Int32) then x7 else (999 : Int32))), (7, .int ((if x7 < (999 : Int32) then x7 else (999 : Int32)) * x10))]) [2, 3, 4, 5, 6, 7, 1, 0] rfl ?_
          exact hj12 (s5.1, s5.2.1)
        ·
          refine gm_iload d_X11_dare_61 0 rfl ?_
          refine gm_istore_n (L' := [(3, .int ((if x7 < (999 : Int32) then x7 else (999 : Int32)) * x10)), (7, .int ((if x7 < (999 : Int32) then x7 else (999 : Int32)) * x10)), (6, .int (if x7 < (999 : Int32) then x7 else (999 : Int32))), (0, .ref a0), (1, .int a1), (2, .int x4), (4, .int s5.2.1), (5, .int s5.2.2.1)]) d_X11_dare_63 rfl (Nat.le_of_ble_eq_true rfl) rfl ?_
          refine gm_iload d_X11_dare_64 2 rfl ?_
          refine gm_istore (L' := [(4, .int (if x7 < (999 : Int32) then x7 else (999 : Int32))), (3, .int ((if x7 < (999 : Int32) then x7 else (999 : Int32)) * x10)), (7, .int ((if x7 < (999 : Int32) then x7 else (999 : Int32)) * x10)), (6, .int (if x7 < (999 : Int32) then x7 else (999 : Int32))), (0, .ref a0), (1, .int a1), (2, .int x4), (5, .int s5.2.2.1)]) d_X11_dare_66 (Nat.le_of_ble_eq_true rfl) rfl ?_
          refine gm_sub (L' := [(0, .ref a0), (1, .int a1), (2, .int x4), (3, .int ((if x7 < (999 : Int32) then x7 else (999 : Int32)) * x10)), (4, .int (if x7 < (999 : Int32) then x7 else (999 : Int32))), (5, .int s5.2.2.1), (6, .int (if x7 < (999 : Int32) then x7 else (999 : Int32))), (7, .int ((if x7 < (999 : Int32) then x7 else (999 : Int32)) * x10))]) [4, 5, 6, 1, 0, 7, 3, 2] rfl ?_
          exact hj12 (((if x7 < (999 : Int32) then x7 else (999 : Int32)) * x10), (if x7 < (999 : Int32) then x7 else (999 : Int32)))
  ·
    refine gm_iconst (v := -1) d_X11_dare_8 (by decide) ?_
    exact gm_iret rfl d_X11_dare_9 (Nat.le_of_ble_eq_true rfl) (Nat.le_of_ble_eq_true rfl) (fun h => h)
theorem d_X11_tryPlanRow_0 : decode prog_1_method_57_code 0 = .ok (.iload_n 1, 1) := ge_iload_n_1 (by decide +kernel)
theorem d_X11_tryPlanRow_1 : decode prog_1_method_57_code 1 = .ok (.iconst 1, 1) := ge_iconst_1 (by decide +kernel)
theorem d_X11_tryPlanRow_2 : decode prog_1_method_57_code 2 = .ok (.if_icmp .ne 58, 3) := ge_if_icmp_ne (by decide +kernel)
theorem d_X11_tryPlanRow_5 : decode prog_1_method_57_code 5 = .ok (.aload_n 0, 1) := ge_aload_n_0 (by decide +kernel)
theorem d_X11_tryPlanRow_6 : decode prog_1_method_57_code 6 = .ok (.getfield 72, 3) := ge_getfield (by decide +kernel)
theorem d_X11_tryPlanRow_9 : decode prog_1_method_57_code 9 = .ok (.bipush 6, 2) := ge_bipush (by decide +kernel)
theorem d_X11_tryPlanRow_11 : decode prog_1_method_57_code 11 = .ok (.aload_n 0, 1) := ge_aload_n_0 (by decide +kernel)
theorem d_X11_tryPlanRow_12 : decode prog_1_method_57_code 12 = .ok (.getfield 72, 3) := ge_getfield (by decide +kernel)
theorem d_X11_tryPlanRow_15 : decode prog_1_method_57_code 15 = .ok (.getfield 129, 3) := ge_getfield (by decide +kernel)
theorem d_X11_tryPlanRow_18 : decode prog_1_method_57_code 18 = .ok (.iconst 1, 1) := ge_iconst_1 (by decide +kernel)
theorem d_X11_tryPlanRow_19 : decode prog_1_method_57_code 19 = .ok (.iadd, 1) := ge_iadd (by decide +kernel)
theorem d_X11_tryPlanRow_20 : decode prog_1_method_57_code 20 = .ok (.invokestatic 214, 3) := ge_invokestatic (by decide +kernel)
theorem d_X11_tryPlanRow_23 : decode prog_1_method_57_code 23 = .ok (.putfield 129, 3) := ge_putfield (by decide +kernel)
theorem d_X11_tryPlanRow_26 : decode prog_1_method_57_code 26 = .ok (.aload_n 0, 1) := ge_aload_n_0 (by decide +kernel)
theorem d_X11_tryPlanRow_27 : decode prog_1_method_57_code 27 = .ok (.getfield 72, 3) := ge_getfield (by decide +kernel)
theorem d_X11_tryPlanRow_30 : decode prog_1_method_57_code 30 = .ok (.sipush 999, 3) := ge_sipush (by decide +kernel)
theorem d_X11_tryPlanRow_33 : decode prog_1_method_57_code 33 = .ok (.aload_n 0, 1) := ge_aload_n_0 (by decide +kernel)
theorem d_X11_tryPlanRow_34 : decode prog_1_method_57_code 34 = .ok (.getfield 72, 3) := ge_getfield (by decide +kernel)
theorem d_X11_tryPlanRow_37 : decode prog_1_method_57_code 37 = .ok (.getfield 132, 3) := ge_getfield (by decide +kernel)
theorem d_X11_tryPlanRow_40 : decode prog_1_method_57_code 40 = .ok (.aload_n 0, 1) := ge_aload_n_0 (by decide +kernel)
theorem d_X11_tryPlanRow_41 : decode prog_1_method_57_code 41 = .ok (.getfield 60, 3) := ge_getfield (by decide +kernel)
theorem d_X11_tryPlanRow_44 : decode prog_1_method_57_code 44 = .ok (.getfield 97, 3) := ge_getfield (by decide +kernel)
theorem d_X11_tryPlanRow_47 : decode prog_1_method_57_code 47 = .ok (.getfield 108, 3) := ge_getfield (by decide +kernel)
theorem d_X11_tryPlanRow_50 : decode prog_1_method_57_code 50 = .ok (.iadd, 1) := ge_iadd (by decide +kernel)
theorem d_X11_tryPlanRow_51 : decode prog_1_method_57_code 51 = .ok (.invokestatic 214, 3) := ge_invokestatic (by decide +kernel)
theorem d_X11_tryPlanRow_54 : decode prog_1_method_57_code 54 = .ok (.putfield 132, 3) := ge_putfield (by decide +kernel)
theorem d_X11_tryPlanRow_57 : decode prog_1_method_57_code 57 = .ok (.goto 60, 3) := ge_goto (by decide +kernel)
theorem d_X11_tryPlanRow_60 : decode prog_1_method_57_code 60 = .ok (.iload_n 1, 1) := ge_iload_n_1 (by decide +kernel)
theorem d_X11_tryPlanRow_61 : decode prog_1_method_57_code 61 = .ok (.iconst 2, 1) := ge_iconst_2 (by decide +kernel)
theorem d_X11_tryPlanRow_62 : decode prog_1_method_57_code 62 = .ok (.if_icmp .ne 30, 3) := ge_if_icmp_ne (by decide +kernel)
theorem d_X11_tryPlanRow_65 : decode prog_1_method_57_code 65 = .ok (.aload_n 0, 1) := ge_aload_n_0 (by decide +kernel)
theorem d_X11_tryPlanRow_66 : decode prog_1_method_57_code 66 = .ok (.getfield 72, 3) := ge_getfield (by decide +kernel)
theorem d_X11_tryPlanRow_69 : decode prog_1_method_57_code 69 = .ok (.iconst 0, 1) := ge_iconst_0 (by decide +kernel)
theorem d_X11_tryPlanRow_70 : decode prog_1_method_57_code 70 = .ok (.putfield 129, 3) := ge_putfield (by decide +kernel)
theorem d_X11_tryPlanRow_73 : decode prog_1_method_57_code 73 = .ok (.aload_n 0, 1) := ge_aload_n_0 (by decide +kernel)
theorem d_X11_tryPlanRow_74 : decode prog_1_method_57_code 74 = .ok (.getfield 72, 3) := ge_getfield (by decide +kernel)
theorem d_X11_tryPlanRow_77 : decode prog_1_method_57_code 77 = .ok (.iconst 0, 1) := ge_iconst_0 (by decide +kernel)
theorem d_X11_tryPlanRow_78 : decode prog_1_method_57_code 78 = .ok (.putfield 132, 3) := ge_putfield (by decide +kernel)
theorem d_X11_tryPlanRow_81 : decode prog_1_method_57_code 81 = .ok (.aload_n 0, 1) := ge_aload_n_0 (by decide +kernel)
theorem d_X11_tryPlanRow_82 : decode prog_1_method_57_code 82 = .ok (.getfield 72, 3) := ge_getfield (by decide +kernel)
theorem d_X11_tryPlanRow_85 : decode prog_1_method_57_code 85 = .ok (.iconst 0, 1) := ge_iconst_0 (by decide +kernel)
theorem d_X11_tryPlanRow_86 : decode prog_1_method_57_code 86 = .ok (.putfield 138, 3) := ge_putfield (by decide +kernel)
theorem d_X11_tryPlanRow_89 : decode prog_1_method_57_code 89 = .ok (.goto 28, 3) := ge_goto (by decide +kernel)
theorem d_X11_tryPlanRow_92 : decode prog_1_method_57_code 92 = .ok (.aload_n 0, 1) := ge_aload_n_0 (by decide +kernel)
theorem d_X11_tryPlanRow_93 : decode prog_1_method_57_code 93 = .ok (.getfield 72, 3) := ge_getfield (by decide +kernel)
theorem d_X11_tryPlanRow_96 : decode prog_1_method_57_code 96 = .ok (.bipush 10, 2) := ge_bipush (by decide +kernel)
theorem d_X11_tryPlanRow_98 : decode prog_1_method_57_code 98 = .ok (.aload_n 0, 1) := ge_aload_n_0 (by decide +kernel)
theorem d_X11_tryPlanRow_99 : decode prog_1_method_57_code 99 = .ok (.getfield 72, 3) := ge_getfield (by decide +kernel)
theorem d_X11_tryPlanRow_102 : decode prog_1_method_57_code 102 = .ok (.aload_n 0, 1) := ge_aload_n_0 (by decide +kernel)
theorem d_X11_tryPlanRow_103 : decode prog_1_method_57_code 103 = .ok (.getfield 60, 3) := ge_getfield (by decide +kernel)
theorem d_X11_tryPlanRow_106 : decode prog_1_method_57_code 106 = .ok (.getfield 97, 3) := ge_getfield (by decide +kernel)
theorem d_X11_tryPlanRow_109 : decode prog_1_method_57_code 109 = .ok (.iload_n 2, 1) := ge_iload_n_2 (by decide +kernel)
theorem d_X11_tryPlanRow_110 : decode prog_1_method_57_code 110 = .ok (.invokevirtual 193, 3) := ge_invokevirtual (by decide +kernel)
theorem d_X11_tryPlanRow_113 : decode prog_1_method_57_code 113 = .ok (.invokevirtual 175, 3) := ge_invokevirtual (by decide +kernel)
theorem d_X11_tryPlanRow_116 : decode prog_1_method_57_code 116 = .ok (.pop, 1) := ge_pop (by decide +kernel)
theorem d_X11_tryPlanRow_117 : decode prog_1_method_57_code 117 = .ok (.return_, 1) := ge_return_ (by decide +kernel)
def f_X11_tryPlanRow (a0 : Nat) (a1 : Int32) (a2 : Int32) (μ : gm_M) : Option (Option Value × gm_M) := if a1 ≠ (1 : Int32) then if a1 ≠ (2 : Int32) then gm_gR μ [16] a0 5 (fun v1 => gm_gR μ [16] a0 5 (fun v2 => gm_gR μ [16] a0 1 (fun v3 => gm_gR μ [13] v3 6 (fun v4 => if gm_tag μ v2 = 7 then gm_bI (f_X2_holds v2 v4 a2 μ) (fun x6 m5 => if gm_tag m5 v1 = 7 then gm_bI (f_X2_breathe v1 (10 : Int32) x6 m5) (fun x8 m7 => some (none, m7)) else none) else none)))) else gm_gR μ [16] a0 5 (fun v9 => gm_pI μ [7] v9 3 (0 : Int32) (fun m10 => gm_gR m10 [16] a0 5 (fun v11 => gm_pI m10 [7] v11 4 (0 : Int32) (fun m12 => gm_gR m12 [16] a0 5 (fun v13 => gm_pI m12 [7] v13 6 (0 : Int32) (fun m14 => some (none, m14))))))) else gm_gR μ [16] a0 5 (fun v15 => gm_gR μ [16] a0 5 (fun v16 => gm_gI μ [7] v16 3 (fun v17 => gm_pI μ [7] v15 3 (if (v17 + (1 : Int32)) < (6 : Int32) then (v17 + (1 : Int32)) else (6 : Int32)) (fun m19 => gm_gR m19 [16] a0 5 (fun v20 => gm_gR m19 [16] a0 5 (fun v21 => gm_gI m19 [7] v21 4 (fun v22 => gm_gR m19 [16] a0 1 (fun v23 => gm_gR m19 [13] v23 6 (fun v24 => gm_gI m19 [5] v24 1 (fun v25 => gm_pI m19 [7] v20 4 (if (v22 + v25) < (999 : Int32) then (v22 + v25) else (999 : Int32)) (fun m27 => some (none, m27))))))))))))
set_option maxHeartbeats 4000000 in
theorem c_X11_tryPlanRow (a0 : Nat) (a1 : Int32) (a2 : Int32) (μ : gm_M) : gm_Call ({ cls := "GumBubble", name := "tryPlanRow", desc := "(II)V" } : Jvm.MethodName) prog_1_method_57_code 3 none 4 0 0 [.ref a0, .int a1, .int a2] μ (f_X11_tryPlanRow a0 a1 a2 μ) := by
  refine gm_start PN_11 (Nat.le_of_ble_eq_true rfl) (fun res μe => ?_)
  unfold f_X11_tryPlanRow
  show gm_A "GumBubble" (gm_nm "tryPlanRow") _ _ _ _ _ _ _ _ _ 0 [(0, .ref a0), (1, .int a1), (2, .int a2)] [] _ _
  refine gm_iload_n d_X11_tryPlanRow_0 rfl 1 rfl ?_
  refine gm_iconst (v := 1) d_X11_tryPlanRow_1 (by decide) ?_
  refine gm_icmp_ne (tgt := 60) d_X11_tryPlanRow_2 (by decide) (fun h2 => ?_) (fun h2 => ?_)
  ·
    refine gm_iload_n d_X11_tryPlanRow_60 rfl 1 rfl ?_
    refine gm_iconst (v := 2) d_X11_tryPlanRow_61 (by decide) ?_
    refine gm_icmp_ne (tgt := 92) d_X11_tryPlanRow_62 (by decide) (fun h62 => ?_) (fun h62 => ?_)
    ·
      refine gm_aload_n d_X11_tryPlanRow_92 rfl 0 rfl ?_
      refine gm_getR F_11_trial gw_266 d_X11_tryPlanRow_93 (fun v1 _ => ?_)
      refine gm_bipush (v := 10) d_X11_tryPlanRow_96 (by decide) ?_
      refine gm_aload_n d_X11_tryPlanRow_98 rfl 0 rfl ?_
      refine gm_getR F_11_trial gw_266 d_X11_tryPlanRow_99 (fun v2 _ => ?_)
      refine gm_aload_n d_X11_tryPlanRow_102 rfl 0 rfl ?_
      refine gm_getR F_11_now gw_262 d_X11_tryPlanRow_103 (fun v3 _ => ?_)
      refine gm_getR F_8_afternoon gw_231 d_X11_tryPlanRow_106 (fun v4 _ => ?_)
      refine gm_iload_n d_X11_tryPlanRow_109 rfl 2 rfl ?_
      refine gm_grd (fun g110 => ?_)
      refine gm_callV (k0 := 2) [.ref v4, .int a2] (c_X2_holds v2 v4 a2 μ) g110 rfl B_X2_holds gw_545 gw_547 rfl rfl rfl d_X11_tryPlanRow_110 (gm_kI (fun x6 m5 => ?_))
      refine gm_grd (fun g113 => ?_)
      refine gm_callV (k0 := 2) [.int (10 : Int32), .int x6] (c_X2_breathe v1 (10 : Int32) x6 m5) g113 rfl B_X2_breathe gw_611 gw_613 rfl rfl rfl d_X11_tryPlanRow_113 (gm_kI (fun x8 m7 => ?_))
      refine gm_pop d_X11_tryPlanRow_116 rfl ?_
      exact gm_vret rfl d_X11_tryPlanRow_117 (Nat.le_of_ble_eq_true rfl) (Nat.le_of_ble_eq_true rfl) (fun h => h)
    ·
      refine gm_aload_n d_X11_tryPlanRow_65 rfl 0 rfl ?_
      refine gm_getR F_11_trial gw_266 d_X11_tryPlanRow_66 (fun v9 _ => ?_)
      refine gm_iconst (v := 0) d_X11_tryPlanRow_69 (by decide) ?_
      refine gm_putI F_2_pieces (Or.inl rfl) gw_185 d_X11_tryPlanRow_70 (fun m10 _ => ?_)
      refine gm_aload_n d_X11_tryPlanRow_73 rfl 0 rfl ?_
      refine gm_getR F_11_trial gw_266 d_X11_tryPlanRow_74 (fun v11 _ => ?_)
      refine gm_iconst (v := 0) d_X11_tryPlanRow_77 (by decide) ?_
      refine gm_putI F_2_sugar (Or.inl rfl) gw_188 d_X11_tryPlanRow_78 (fun m12 _ => ?_)
      refine gm_aload_n d_X11_tryPlanRow_81 rfl 0 rfl ?_
      refine gm_getR F_11_trial gw_266 d_X11_tryPlanRow_82 (fun v13 _ => ?_)
      refine gm_iconst (v := 0) d_X11_tryPlanRow_85 (by decide) ?_
      refine gm_putI F_2_bubble (Or.inl rfl) gw_193 d_X11_tryPlanRow_86 (fun m14 _ => ?_)
      refine gm_goto (tgt := 117) d_X11_tryPlanRow_89 (by decide) ?_
      exact gm_vret rfl d_X11_tryPlanRow_117 (Nat.le_of_ble_eq_true rfl) (Nat.le_of_ble_eq_true rfl) (fun h => h)
  ·
    refine gm_aload_n d_X11_tryPlanRow_5 rfl 0 rfl ?_
    refine gm_getR F_11_trial gw_266 d_X11_tryPlanRow_6 (fun v15 _ => ?_)
    refine gm_bipush (v := 6) d_X11_tryPlanRow_9 (by decide) ?_
    refine gm_aload_n d_X11_tryPlanRow_11 rfl 0 rfl ?_
    refine gm_getR F_11_trial gw_266 d_X11_tryPlanRow_12 (fun v16 _ => ?_)
    refine gm_getI F_2_pieces gw_185 d_X11_tryPlanRow_15 (fun v17 _ => ?_)
    refine gm_iconst (v := 1) d_X11_tryPlanRow_18 (by decide) ?_
    refine gm_iadd d_X11_tryPlanRow_19 ?_
    refine gm_min gw_672 gw_310 gw_3 (show _ from gw_311) (Nat.le_of_ble_eq_true rfl) (Nat.le_of_ble_eq_true rfl) (Nat.le_of_ble_eq_true rfl) (Nat.le_of_ble_eq_true rfl) rfl d_X11_tryPlanRow_20 ?_
    refine gm_putI F_2_pieces (Or.inl rfl) gw_185 d_X11_tryPlanRow_23 (fun m19 _ => ?_)
    refine gm_aload_n d_X11_tryPlanRow_26 rfl 0 rfl ?_
    refine gm_getR F_11_trial gw_266 d_X11_tryPlanRow_27 (fun v20 _ => ?_)
    refine gm_sipush (v := 999) d_X11_tryPlanRow_30 (by decide) ?_
    refine gm_aload_n d_X11_tryPlanRow_33 rfl 0 rfl ?_
    refine gm_getR F_11_trial gw_266 d_X11_tryPlanRow_34 (fun v21 _ => ?_)
    refine gm_getI F_2_sugar gw_188 d_X11_tryPlanRow_37 (fun v22 _ => ?_)
    refine gm_aload_n d_X11_tryPlanRow_40 rfl 0 rfl ?_
    refine gm_getR F_11_now gw_262 d_X11_tryPlanRow_41 (fun v23 _ => ?_)
    refine gm_getR F_8_afternoon gw_231 d_X11_tryPlanRow_44 (fun v24 _ => ?_)
    refine gm_getI F_0_sweet gw_129 d_X11_tryPlanRow_47 (fun v25 _ => ?_)
    refine gm_iadd d_X11_tryPlanRow_50 ?_
    refine gm_min gw_672 gw_310 gw_3 (show _ from gw_311) (Nat.le_of_ble_eq_true rfl) (Nat.le_of_ble_eq_true rfl) (Nat.le_of_ble_eq_true rfl) (Nat.le_of_ble_eq_true rfl) rfl d_X11_tryPlanRow_51 ?_
    refine gm_putI F_2_sugar (Or.inl rfl) gw_188 d_X11_tryPlanRow_54 (fun m27 _ => ?_)
    refine gm_goto (tgt := 117) d_X11_tryPlanRow_57 (by decide) ?_
    exact gm_vret rfl d_X11_tryPlanRow_117 (Nat.le_of_ble_eq_true rfl) (Nat.le_of_ble_eq_true rfl) (fun h => h)
theorem d_X1_jawTired_0 : decode prog_3_method_3_code 0 = .ok (.aload_n 1, 1) := ge_aload_n_1 (by decide +kernel)
theorem d_X1_jawTired_1 : decode prog_3_method_3_code 1 = .ok (.getfield 11, 3) := ge_getfield (by decide +kernel)
theorem d_X1_jawTired_4 : decode prog_3_method_3_code 4 = .ok (.iconst 2, 1) := ge_iconst_2 (by decide +kernel)
theorem d_X1_jawTired_5 : decode prog_3_method_3_code 5 = .ok (.idiv, 1) := ge_idiv (by decide +kernel)
theorem d_X1_jawTired_6 : decode prog_3_method_3_code 6 = .ok (.ireturn, 1) := ge_ireturn (by decide +kernel)
def f_X1_jawTired (a0 : Nat) (a1 : Nat) (μ : gm_M) : Option (Option Value × gm_M) := gm_gI μ [7] a1 3 (fun v1 => if (2 : Int32) = 0 then none else some (some (.int (v1 / (2 : Int32))), μ))
set_option maxHeartbeats 4000000 in
theorem c_X1_jawTired (a0 : Nat) (a1 : Nat) (μ : gm_M) : gm_Call ({ cls := "GumBubble$Careful", name := "jawTired", desc := "(LGumBubble$Child;)I" } : Jvm.MethodName) prog_3_method_3_code 2 (some .int) 0 0 0 [.ref a0, .ref a1] μ (f_X1_jawTired a0 a1 μ) := by
  refine gm_start PN_1 (Nat.le_of_ble_eq_true rfl) (fun res μe => ?_)
  unfold f_X1_jawTired
  show gm_A "GumBubble$Careful" (gm_nm "jawTired") _ _ _ _ _ _ _ _ _ 0 [(0, .ref a0), (1, .ref a1)] [] _ _
  refine gm_aload_n d_X1_jawTired_0 rfl 1 rfl ?_
  refine gm_getI F_2_pieces gw_182 d_X1_jawTired_1 (fun v1 _ => ?_)
  refine gm_iconst (v := 2) d_X1_jawTired_4 (by decide) ?_
  refine gm_idiv d_X1_jawTired_5 ?_
  exact gm_iret rfl d_X1_jawTired_6 (Nat.le_of_ble_eq_true rfl) (Nat.le_of_ble_eq_true rfl) (fun h => h)
theorem d_X9_sugarChewed_0 : decode prog_11_method_2_code 0 = .ok (.aload_n 0, 1) := ge_aload_n_0 (by decide +kernel)
theorem d_X9_sugarChewed_1 : decode prog_11_method_2_code 1 = .ok (.aload_n 1, 1) := ge_aload_n_1 (by decide +kernel)
theorem d_X9_sugarChewed_2 : decode prog_11_method_2_code 2 = .ok (.iload_n 2, 1) := ge_iload_n_2 (by decide +kernel)
theorem d_X9_sugarChewed_3 : decode prog_11_method_2_code 3 = .ok (.invokespecial 7, 3) := ge_invokespecial (by decide +kernel)
theorem d_X9_sugarChewed_6 : decode prog_11_method_2_code 6 = .ok (.iconst 2, 1) := ge_iconst_2 (by decide +kernel)
theorem d_X9_sugarChewed_7 : decode prog_11_method_2_code 7 = .ok (.idiv, 1) := ge_idiv (by decide +kernel)
theorem d_X9_sugarChewed_8 : decode prog_11_method_2_code 8 = .ok (.ireturn, 1) := ge_ireturn (by decide +kernel)
def f_X9_sugarChewed (a0 : Nat) (a1 : Nat) (a2 : Int32) (μ : gm_M) : Option (Option Value × gm_M) := if List.contains [6, 14] (gm_tag μ a0) = true then gm_bI (f_X5_sugarChewed a0 a1 a2 μ) (fun x2 m1 => if (2 : Int32) = 0 then none else some (some (.int (x2 / (2 : Int32))), m1)) else none
set_option maxHeartbeats 4000000 in
theorem c_X9_sugarChewed (a0 : Nat) (a1 : Nat) (a2 : Int32) (μ : gm_M) : gm_Call ({ cls := "GumBubble$Slow", name := "sugarChewed", desc := "(LGumBubble$Child;I)I" } : Jvm.MethodName) prog_11_method_2_code 3 (some .int) 1 0 0 [.ref a0, .ref a1, .int a2] μ (f_X9_sugarChewed a0 a1 a2 μ) := by
  refine gm_start PN_9 (Nat.le_of_ble_eq_true rfl) (fun res μe => ?_)
  unfold f_X9_sugarChewed
  show gm_A "GumBubble$Slow" (gm_nm "sugarChewed") _ _ _ _ _ _ _ _ _ 0 [(0, .ref a0), (1, .ref a1), (2, .int a2)] [] _ _
  refine gm_aload_n d_X9_sugarChewed_0 rfl 0 rfl ?_
  refine gm_aload_n d_X9_sugarChewed_1 rfl 1 rfl ?_
  refine gm_iload_n d_X9_sugarChewed_2 rfl 2 rfl ?_
  refine gm_grd (fun g3 => ?_)
  refine gm_callSU [.ref a1, .int a2] (c_X5_sugarChewed a0 a1 a2 μ) g3 Any_9 (by decide) B_X5_sugarChewed gw_504 gw_497 gw_78 rfl rfl rfl d_X9_sugarChewed_3 (gm_kI (fun x2 m1 => ?_))
  refine gm_iconst (v := 2) d_X9_sugarChewed_6 (by decide) ?_
  refine gm_idiv d_X9_sugarChewed_7 ?_
  exact gm_iret rfl d_X9_sugarChewed_8 (Nat.le_of_ble_eq_true rfl) (Nat.le_of_ble_eq_true rfl) (fun h => h)
theorem d_X1_sugarChewed_0 : decode prog_3_method_2_code 0 = .ok (.aload_n 0, 1) := ge_aload_n_0 (by decide +kernel)
theorem d_X1_sugarChewed_1 : decode prog_3_method_2_code 1 = .ok (.aload_n 1, 1) := ge_aload_n_1 (by decide +kernel)
theorem d_X1_sugarChewed_2 : decode prog_3_method_2_code 2 = .ok (.iload_n 2, 1) := ge_iload_n_2 (by decide +kernel)
theorem d_X1_sugarChewed_3 : decode prog_3_method_2_code 3 = .ok (.invokespecial 7, 3) := ge_invokespecial (by decide +kernel)
theorem d_X1_sugarChewed_6 : decode prog_3_method_2_code 6 = .ok (.iconst 1, 1) := ge_iconst_1 (by decide +kernel)
theorem d_X1_sugarChewed_7 : decode prog_3_method_2_code 7 = .ok (.iadd, 1) := ge_iadd (by decide +kernel)
theorem d_X1_sugarChewed_8 : decode prog_3_method_2_code 8 = .ok (.ireturn, 1) := ge_ireturn (by decide +kernel)
def f_X1_sugarChewed (a0 : Nat) (a1 : Nat) (a2 : Int32) (μ : gm_M) : Option (Option Value × gm_M) := if List.contains [6] (gm_tag μ a0) = true then gm_bI (f_X9_sugarChewed a0 a1 a2 μ) (fun x2 m1 => some (some (.int (x2 + (1 : Int32))), m1)) else none
set_option maxHeartbeats 4000000 in
theorem c_X1_sugarChewed (a0 : Nat) (a1 : Nat) (a2 : Int32) (μ : gm_M) : gm_Call ({ cls := "GumBubble$Careful", name := "sugarChewed", desc := "(LGumBubble$Child;I)I" } : Jvm.MethodName) prog_3_method_2_code 3 (some .int) 2 0 0 [.ref a0, .ref a1, .int a2] μ (f_X1_sugarChewed a0 a1 a2 μ) := by
  refine gm_start PN_1 (Nat.le_of_ble_eq_true rfl) (fun res μe => ?_)
  unfold f_X1_sugarChewed
  show gm_A "GumBubble$Careful" (gm_nm "sugarChewed") _ _ _ _ _ _ _ _ _ 0 [(0, .ref a0), (1, .ref a1), (2, .int a2)] [] _ _
  refine gm_aload_n d_X1_sugarChewed_0 rfl 0 rfl ?_
  refine gm_aload_n d_X1_sugarChewed_1 rfl 1 rfl ?_
  refine gm_iload_n d_X1_sugarChewed_2 rfl 2 rfl ?_
  refine gm_grd (fun g3 => ?_)
  refine gm_callSU [.ref a1, .int a2] (c_X9_sugarChewed a0 a1 a2 μ) g3 Any_1 (by decide) B_X9_sugarChewed gw_501 gw_1325 gw_102 rfl rfl rfl d_X1_sugarChewed_3 (gm_kI (fun x2 m1 => ?_))
  refine gm_iconst (v := 1) d_X1_sugarChewed_6 (by decide) ?_
  refine gm_iadd d_X1_sugarChewed_7 ?_
  exact gm_iret rfl d_X1_sugarChewed_8 (Nat.le_of_ble_eq_true rfl) (Nat.le_of_ble_eq_true rfl) (fun h => h)
theorem d_X3_jawTired_0 : decode prog_5_method_3_code 0 = .ok (.iconst 2, 1) := ge_iconst_2 (by decide +kernel)
theorem d_X3_jawTired_1 : decode prog_5_method_3_code 1 = .ok (.aload_n 1, 1) := ge_aload_n_1 (by decide +kernel)
theorem d_X3_jawTired_2 : decode prog_5_method_3_code 2 = .ok (.getfield 17, 3) := ge_getfield (by decide +kernel)
theorem d_X3_jawTired_5 : decode prog_5_method_3_code 5 = .ok (.imul, 1) := ge_imul (by decide +kernel)
theorem d_X3_jawTired_6 : decode prog_5_method_3_code 6 = .ok (.ireturn, 1) := ge_ireturn (by decide +kernel)
def f_X3_jawTired (a0 : Nat) (a1 : Nat) (μ : gm_M) : Option (Option Value × gm_M) := gm_gI μ [7] a1 3 (fun v1 => some (some (.int ((2 : Int32) * v1)), μ))
set_option maxHeartbeats 4000000 in
theorem c_X3_jawTired (a0 : Nat) (a1 : Nat) (μ : gm_M) : gm_Call ({ cls := "GumBubble$Cold", name := "jawTired", desc := "(LGumBubble$Child;)I" } : Jvm.MethodName) prog_5_method_3_code 2 (some .int) 0 0 0 [.ref a0, .ref a1] μ (f_X3_jawTired a0 a1 μ) := by
  refine gm_start PN_3 (Nat.le_of_ble_eq_true rfl) (fun res μe => ?_)
  unfold f_X3_jawTired
  show gm_A "GumBubble$Cold" (gm_nm "jawTired") _ _ _ _ _ _ _ _ _ 0 [(0, .ref a0), (1, .ref a1)] [] _ _
  refine gm_iconst (v := 2) d_X3_jawTired_0 (by decide) ?_
  refine gm_aload_n d_X3_jawTired_1 rfl 1 rfl ?_
  refine gm_getI F_2_pieces gw_184 d_X3_jawTired_2 (fun v1 _ => ?_)
  refine gm_imul d_X3_jawTired_5 ?_
  exact gm_iret rfl d_X3_jawTired_6 (Nat.le_of_ble_eq_true rfl) (Nat.le_of_ble_eq_true rfl) (fun h => h)
theorem d_X6_sugarChewed_0 : decode prog_8_method_2_code 0 = .ok (.iconst 2, 1) := ge_iconst_2 (by decide +kernel)
theorem d_X6_sugarChewed_1 : decode prog_8_method_2_code 1 = .ok (.aload_n 0, 1) := ge_aload_n_0 (by decide +kernel)
theorem d_X6_sugarChewed_2 : decode prog_8_method_2_code 2 = .ok (.aload_n 1, 1) := ge_aload_n_1 (by decide +kernel)
theorem d_X6_sugarChewed_3 : decode prog_8_method_2_code 3 = .ok (.iload_n 2, 1) := ge_iload_n_2 (by decide +kernel)
theorem d_X6_sugarChewed_4 : decode prog_8_method_2_code 4 = .ok (.invokespecial 7, 3) := ge_invokespecial (by decide +kernel)
theorem d_X6_sugarChewed_7 : decode prog_8_method_2_code 7 = .ok (.imul, 1) := ge_imul (by decide +kernel)
theorem d_X6_sugarChewed_8 : decode prog_8_method_2_code 8 = .ok (.ireturn, 1) := ge_ireturn (by decide +kernel)
def f_X6_sugarChewed (a0 : Nat) (a1 : Nat) (a2 : Int32) (μ : gm_M) : Option (Option Value × gm_M) := if List.contains [9, 11] (gm_tag μ a0) = true then gm_bI (f_X5_sugarChewed a0 a1 a2 μ) (fun x2 m1 => some (some (.int ((2 : Int32) * x2)), m1)) else none
set_option maxHeartbeats 4000000 in
theorem c_X6_sugarChewed (a0 : Nat) (a1 : Nat) (a2 : Int32) (μ : gm_M) : gm_Call ({ cls := "GumBubble$Quick", name := "sugarChewed", desc := "(LGumBubble$Child;I)I" } : Jvm.MethodName) prog_8_method_2_code 3 (some .int) 1 0 0 [.ref a0, .ref a1, .int a2] μ (f_X6_sugarChewed a0 a1 a2 μ) := by
  refine gm_start PN_6 (Nat.le_of_ble_eq_true rfl) (fun res μe => ?_)
  unfold f_X6_sugarChewed
  show gm_A "GumBubble$Quick" (gm_nm "sugarChewed") _ _ _ _ _ _ _ _ _ 0 [(0, .ref a0), (1, .ref a1), (2, .int a2)] [] _ _
  refine gm_iconst (v := 2) d_X6_sugarChewed_0 (by decide) ?_
  refine gm_aload_n d_X6_sugarChewed_1 rfl 0 rfl ?_
  refine gm_aload_n d_X6_sugarChewed_2 rfl 1 rfl ?_
  refine gm_iload_n d_X6_sugarChewed_3 rfl 2 rfl ?_
  refine gm_grd (fun g4 => ?_)
  refine gm_callSU [.ref a1, .int a2] (c_X5_sugarChewed a0 a1 a2 μ) g4 Any_6 (by decide) B_X5_sugarChewed gw_516 gw_497 gw_70 rfl rfl rfl d_X6_sugarChewed_4 (gm_kI (fun x2 m1 => ?_))
  refine gm_imul d_X6_sugarChewed_7 ?_
  exact gm_iret rfl d_X6_sugarChewed_8 (Nat.le_of_ble_eq_true rfl) (Nat.le_of_ble_eq_true rfl) (fun h => h)
theorem d_X4_sugarChewed_0 : decode prog_6_method_2_code 0 = .ok (.aload_n 0, 1) := ge_aload_n_0 (by decide +kernel)
theorem d_X4_sugarChewed_1 : decode prog_6_method_2_code 1 = .ok (.aload_n 1, 1) := ge_aload_n_1 (by decide +kernel)
theorem d_X4_sugarChewed_2 : decode prog_6_method_2_code 2 = .ok (.iload_n 2, 1) := ge_iload_n_2 (by decide +kernel)
theorem d_X4_sugarChewed_3 : decode prog_6_method_2_code 3 = .ok (.invokespecial 7, 3) := ge_invokespecial (by decide +kernel)
theorem d_X4_sugarChewed_6 : decode prog_6_method_2_code 6 = .ok (.aload_n 1, 1) := ge_aload_n_1 (by decide +kernel)
theorem d_X4_sugarChewed_7 : decode prog_6_method_2_code 7 = .ok (.getfield 11, 3) := ge_getfield (by decide +kernel)
theorem d_X4_sugarChewed_10 : decode prog_6_method_2_code 10 = .ok (.iadd, 1) := ge_iadd (by decide +kernel)
theorem d_X4_sugarChewed_11 : decode prog_6_method_2_code 11 = .ok (.ireturn, 1) := ge_ireturn (by decide +kernel)
def f_X4_sugarChewed (a0 : Nat) (a1 : Nat) (a2 : Int32) (μ : gm_M) : Option (Option Value × gm_M) := if List.contains [9] (gm_tag μ a0) = true then gm_bI (f_X6_sugarChewed a0 a1 a2 μ) (fun x2 m1 => gm_gI m1 [7] a1 3 (fun v3 => some (some (.int (x2 + v3)), m1))) else none
set_option maxHeartbeats 4000000 in
theorem c_X4_sugarChewed (a0 : Nat) (a1 : Nat) (a2 : Int32) (μ : gm_M) : gm_Call ({ cls := "GumBubble$Greedy", name := "sugarChewed", desc := "(LGumBubble$Child;I)I" } : Jvm.MethodName) prog_6_method_2_code 3 (some .int) 2 0 0 [.ref a0, .ref a1, .int a2] μ (f_X4_sugarChewed a0 a1 a2 μ) := by
  refine gm_start PN_4 (Nat.le_of_ble_eq_true rfl) (fun res μe => ?_)
  unfold f_X4_sugarChewed
  show gm_A "GumBubble$Greedy" (gm_nm "sugarChewed") _ _ _ _ _ _ _ _ _ 0 [(0, .ref a0), (1, .ref a1), (2, .int a2)] [] _ _
  refine gm_aload_n d_X4_sugarChewed_0 rfl 0 rfl ?_
  refine gm_aload_n d_X4_sugarChewed_1 rfl 1 rfl ?_
  refine gm_iload_n d_X4_sugarChewed_2 rfl 2 rfl ?_
  refine gm_grd (fun g3 => ?_)
  refine gm_callSU [.ref a1, .int a2] (c_X6_sugarChewed a0 a1 a2 μ) g3 Any_4 (by decide) B_X6_sugarChewed gw_513 gw_1326 gw_94 rfl rfl rfl d_X4_sugarChewed_3 (gm_kI (fun x2 m1 => ?_))
  refine gm_aload_n d_X4_sugarChewed_6 rfl 1 rfl ?_
  refine gm_getI F_2_pieces gw_179 d_X4_sugarChewed_7 (fun v3 _ => ?_)
  refine gm_iadd d_X4_sugarChewed_10 ?_
  exact gm_iret rfl d_X4_sugarChewed_11 (Nat.le_of_ble_eq_true rfl) (Nat.le_of_ble_eq_true rfl) (fun h => h)
theorem d_X5_jawTired_0 : decode prog_7_method_3_code 0 = .ok (.aload_n 1, 1) := ge_aload_n_1 (by decide +kernel)
theorem d_X5_jawTired_1 : decode prog_7_method_3_code 1 = .ok (.getfield 18, 3) := ge_getfield (by decide +kernel)
theorem d_X5_jawTired_4 : decode prog_7_method_3_code 4 = .ok (.ireturn, 1) := ge_ireturn (by decide +kernel)
def f_X5_jawTired (a0 : Nat) (a1 : Nat) (μ : gm_M) : Option (Option Value × gm_M) := gm_gI μ [7] a1 3 (fun v1 => some (some (.int v1), μ))
set_option maxHeartbeats 4000000 in
theorem c_X5_jawTired (a0 : Nat) (a1 : Nat) (μ : gm_M) : gm_Call ({ cls := "GumBubble$Plain", name := "jawTired", desc := "(LGumBubble$Child;)I" } : Jvm.MethodName) prog_7_method_3_code 2 (some .int) 0 0 0 [.ref a0, .ref a1] μ (f_X5_jawTired a0 a1 μ) := by
  refine gm_start PN_5 (Nat.le_of_ble_eq_true rfl) (fun res μe => ?_)
  unfold f_X5_jawTired
  show gm_A "GumBubble$Plain" (gm_nm "jawTired") _ _ _ _ _ _ _ _ _ 0 [(0, .ref a0), (1, .ref a1)] [] _ _
  refine gm_aload_n d_X5_jawTired_0 rfl 1 rfl ?_
  refine gm_getI F_2_pieces gw_181 d_X5_jawTired_1 (fun v1 _ => ?_)
  exact gm_iret rfl d_X5_jawTired_4 (Nat.le_of_ble_eq_true rfl) (Nat.le_of_ble_eq_true rfl) (fun h => h)
theorem d_X6_jawTired_0 : decode prog_8_method_3_code 0 = .ok (.aload_n 1, 1) := ge_aload_n_1 (by decide +kernel)
theorem d_X6_jawTired_1 : decode prog_8_method_3_code 1 = .ok (.getfield 11, 3) := ge_getfield (by decide +kernel)
theorem d_X6_jawTired_4 : decode prog_8_method_3_code 4 = .ok (.iconst 1, 1) := ge_iconst_1 (by decide +kernel)
theorem d_X6_jawTired_5 : decode prog_8_method_3_code 5 = .ok (.iadd, 1) := ge_iadd (by decide +kernel)
theorem d_X6_jawTired_6 : decode prog_8_method_3_code 6 = .ok (.ireturn, 1) := ge_ireturn (by decide +kernel)
def f_X6_jawTired (a0 : Nat) (a1 : Nat) (μ : gm_M) : Option (Option Value × gm_M) := gm_gI μ [7] a1 3 (fun v1 => some (some (.int (v1 + (1 : Int32))), μ))
set_option maxHeartbeats 4000000 in
theorem c_X6_jawTired (a0 : Nat) (a1 : Nat) (μ : gm_M) : gm_Call ({ cls := "GumBubble$Quick", name := "jawTired", desc := "(LGumBubble$Child;)I" } : Jvm.MethodName) prog_8_method_3_code 2 (some .int) 0 0 0 [.ref a0, .ref a1] μ (f_X6_jawTired a0 a1 μ) := by
  refine gm_start PN_6 (Nat.le_of_ble_eq_true rfl) (fun res μe => ?_)
  unfold f_X6_jawTired
  show gm_A "GumBubble$Quick" (gm_nm "jawTired") _ _ _ _ _ _ _ _ _ 0 [(0, .ref a0), (1, .ref a1)] [] _ _
  refine gm_aload_n d_X6_jawTired_0 rfl 1 rfl ?_
  refine gm_getI F_2_pieces gw_183 d_X6_jawTired_1 (fun v1 _ => ?_)
  refine gm_iconst (v := 1) d_X6_jawTired_4 (by decide) ?_
  refine gm_iadd d_X6_jawTired_5 ?_
  exact gm_iret rfl d_X6_jawTired_6 (Nat.le_of_ble_eq_true rfl) (Nat.le_of_ble_eq_true rfl) (fun h => h)
def fv_sugarChewed (r : Nat) (b0 : Nat) (b1 : Int32) (μ : gm_M) : Option (Option Value × gm_M) := if gm_tag μ r = 10 then f_X5_sugarChewed r b0 b1 μ else if gm_tag μ r = 11 then f_X6_sugarChewed r b0 b1 μ else if gm_tag μ r = 14 then f_X9_sugarChewed r b0 b1 μ else if gm_tag μ r = 8 then f_X3_sugarChewed r b0 b1 μ else if gm_tag μ r = 9 then f_X4_sugarChewed r b0 b1 μ else if gm_tag μ r = 6 then f_X1_sugarChewed r b0 b1 μ else if gm_tag μ r = 15 then f_X10_sugarChewed r b0 b1 μ else none
theorem V_sugarChewed {own : String} {nm : gm_Nm} {cc : ByteArray} {nL : Nat} {rt : Option FieldType} {R : Room} {res : Option Value} {μe : gm_M} {β : Type} {k n : Nat} {μ : gm_M} {pc : Nat} {L : List (Nat × Value)} {st : List Value} {z : Option β} {κ : β → Prop} (r : Nat) (b0 : Nat) (b1 : Int32) {index : Nat} {st0 : List Value} (hw1 : Jvm.Cond.methodLink own index ({ cls := "GumBubble$Plain", name := "sugarChewed", desc := "(LGumBubble$Child;I)I" } : Jvm.MethodName) ∈ gm_G) (hfit : gm_fit R k n 0 0 2 3 = true) (hst : st0 = [.ref b0, .int b1].reverse ++ .ref r :: st) (hsm : gm_sum st = true) (hd : decode cc pc = .ok (.invokevirtual index, 3))
    (kk : gm_K2 own nm cc nL rt R res μe (k + 0) (n + 0) (pc + 3) L st (fv_sugarChewed r b0 b1 μ) z κ) : gm_A own nm cc nL rt R res μe k n μ pc L st0 z κ := by
  unfold fv_sugarChewed at kk
  by_cases h5 : gm_tag μ r = 10
  · rw [if_pos h5] at kk
    exact gm_callV (k0 := 5) [.ref b0, .int b1] (c_X5_sugarChewed r b0 b1 μ) h5 rfl B_X5_sugarChewed hw1 gw_496 (gm_fit_le hfit (Nat.le_of_ble_eq_true rfl) (Nat.le_of_ble_eq_true rfl)) hst hsm hd kk
  rw [if_neg h5] at kk
  by_cases h6 : gm_tag μ r = 11
  · rw [if_pos h6] at kk
    exact gm_callU (k0 := 6) [.ref b0, .int b1] (c_X6_sugarChewed r b0 b1 μ) h6 rfl MH_5 NP_X5_sugarChewed B_X6_sugarChewed hw1 gw_497 gw_495 gw_523 gw_517 (gm_fit_le hfit (Nat.le_of_ble_eq_true rfl) (Nat.le_of_ble_eq_true rfl)) hst hsm hd kk
  rw [if_neg h6] at kk
  by_cases h9 : gm_tag μ r = 14
  · rw [if_pos h9] at kk
    exact gm_callU (k0 := 9) [.ref b0, .int b1] (c_X9_sugarChewed r b0 b1 μ) h9 rfl MH_5 NP_X5_sugarChewed B_X9_sugarChewed hw1 gw_497 gw_495 gw_523 gw_518 (gm_fit_le hfit (Nat.le_of_ble_eq_true rfl) (Nat.le_of_ble_eq_true rfl)) hst hsm hd kk
  rw [if_neg h9] at kk
  by_cases h3 : gm_tag μ r = 8
  · rw [if_pos h3] at kk
    exact gm_callU (k0 := 3) [.ref b0, .int b1] (c_X3_sugarChewed r b0 b1 μ) h3 rfl MH_5 NP_X5_sugarChewed B_X3_sugarChewed hw1 gw_497 gw_495 gw_523 gw_505 (gm_fit_le hfit (Nat.le_of_ble_eq_true rfl) (Nat.le_of_ble_eq_true rfl)) hst hsm hd kk
  rw [if_neg h3] at kk
  by_cases h4 : gm_tag μ r = 9
  · rw [if_pos h4] at kk
    exact gm_callU (k0 := 4) [.ref b0, .int b1] (c_X4_sugarChewed r b0 b1 μ) h4 rfl MH_5 NP_X5_sugarChewed B_X4_sugarChewed hw1 gw_497 gw_495 gw_523 gw_510 (gm_fit_le hfit (Nat.le_of_ble_eq_true rfl) (Nat.le_of_ble_eq_true rfl)) hst hsm hd kk
  rw [if_neg h4] at kk
  by_cases h1 : gm_tag μ r = 6
  · rw [if_pos h1] at kk
    exact gm_callU (k0 := 1) [.ref b0, .int b1] (c_X1_sugarChewed r b0 b1 μ) h1 rfl MH_5 NP_X5_sugarChewed B_X1_sugarChewed hw1 gw_497 gw_495 gw_523 gw_498 (gm_fit_le hfit (Nat.le_of_ble_eq_true rfl) (Nat.le_of_ble_eq_true rfl)) hst hsm hd kk
  rw [if_neg h1] at kk
  by_cases h10 : gm_tag μ r = 15
  · rw [if_pos h10] at kk
    exact gm_callU (k0 := 10) [.ref b0, .int b1] (c_X10_sugarChewed r b0 b1 μ) h10 rfl MH_5 NP_X5_sugarChewed B_X10_sugarChewed hw1 gw_497 gw_495 gw_523 gw_519 (gm_fit_le hfit (Nat.le_of_ble_eq_true rfl) (Nat.le_of_ble_eq_true rfl)) hst hsm hd kk
  rw [if_neg h10] at kk
  obtain ⟨k0, -⟩ := kk
  rw [k0 rfl]
  exact gm_no
def fv_jawTired (r : Nat) (b0 : Nat) (μ : gm_M) : Option (Option Value × gm_M) := if gm_tag μ r = 10 then f_X5_jawTired r b0 μ else if gm_tag μ r = 11 then f_X6_jawTired r b0 μ else if gm_tag μ r = 14 then f_X5_jawTired r b0 μ else if gm_tag μ r = 8 then f_X3_jawTired r b0 μ else if gm_tag μ r = 9 then f_X6_jawTired r b0 μ else if gm_tag μ r = 6 then f_X1_jawTired r b0 μ else if gm_tag μ r = 15 then f_X3_jawTired r b0 μ else none
theorem V_jawTired {own : String} {nm : gm_Nm} {cc : ByteArray} {nL : Nat} {rt : Option FieldType} {R : Room} {res : Option Value} {μe : gm_M} {β : Type} {k n : Nat} {μ : gm_M} {pc : Nat} {L : List (Nat × Value)} {st : List Value} {z : Option β} {κ : β → Prop} (r : Nat) (b0 : Nat) {index : Nat} {st0 : List Value} (hw1 : Jvm.Cond.methodLink own index ({ cls := "GumBubble$Plain", name := "jawTired", desc := "(LGumBubble$Child;)I" } : Jvm.MethodName) ∈ gm_G) (hfit : gm_fit R k n 0 0 0 2 = true) (hst : st0 = [.ref b0].reverse ++ .ref r :: st) (hsm : gm_sum st = true) (hd : decode cc pc = .ok (.invokevirtual index, 3))
    (kk : gm_K2 own nm cc nL rt R res μe (k + 0) (n + 0) (pc + 3) L st (fv_jawTired r b0 μ) z κ) : gm_A own nm cc nL rt R res μe k n μ pc L st0 z κ := by
  unfold fv_jawTired at kk
  by_cases h5 : gm_tag μ r = 10
  · rw [if_pos h5] at kk
    exact gm_callV (k0 := 5) [.ref b0] (c_X5_jawTired r b0 μ) h5 rfl B_X5_jawTired hw1 gw_526 (gm_fit_le hfit (Nat.le_of_ble_eq_true rfl) (Nat.le_of_ble_eq_true rfl)) hst hsm hd kk
  rw [if_neg h5] at kk
  by_cases h6 : gm_tag μ r = 11
  · rw [if_pos h6] at kk
    exact gm_callU (k0 := 6) [.ref b0] (c_X6_jawTired r b0 μ) h6 rfl MH_5 NP_X5_jawTired B_X6_jawTired hw1 gw_527 gw_525 gw_540 gw_537 (gm_fit_le hfit (Nat.le_of_ble_eq_true rfl) (Nat.le_of_ble_eq_true rfl)) hst hsm hd kk
  rw [if_neg h6] at kk
  by_cases h9 : gm_tag μ r = 14
  · rw [if_pos h9] at kk
    exact gm_callU (k0 := 9) [.ref b0] (c_X5_jawTired r b0 μ) h9 rfl MH_5 NP_X5_jawTired B_X5_jawTired hw1 gw_527 gw_525 gw_540 gw_538 (gm_fit_le hfit (Nat.le_of_ble_eq_true rfl) (Nat.le_of_ble_eq_true rfl)) hst hsm hd kk
  rw [if_neg h9] at kk
  by_cases h3 : gm_tag μ r = 8
  · rw [if_pos h3] at kk
    exact gm_callU (k0 := 3) [.ref b0] (c_X3_jawTired r b0 μ) h3 rfl MH_5 NP_X5_jawTired B_X3_jawTired hw1 gw_527 gw_525 gw_540 gw_531 (gm_fit_le hfit (Nat.le_of_ble_eq_true rfl) (Nat.le_of_ble_eq_true rfl)) hst hsm hd kk
  rw [if_neg h3] at kk
  by_cases h4 : gm_tag μ r = 9
  · rw [if_pos h4] at kk
    exact gm_callU (k0 := 4) [.ref b0] (c_X6_jawTired r b0 μ) h4 rfl MH_5 NP_X5_jawTired B_X6_jawTired hw1 gw_527 gw_525 gw_540 gw_534 (gm_fit_le hfit (Nat.le_of_ble_eq_true rfl) (Nat.le_of_ble_eq_true rfl)) hst hsm hd kk
  rw [if_neg h4] at kk
  by_cases h1 : gm_tag μ r = 6
  · rw [if_pos h1] at kk
    exact gm_callU (k0 := 1) [.ref b0] (c_X1_jawTired r b0 μ) h1 rfl MH_5 NP_X5_jawTired B_X1_jawTired hw1 gw_527 gw_525 gw_540 gw_528 (gm_fit_le hfit (Nat.le_of_ble_eq_true rfl) (Nat.le_of_ble_eq_true rfl)) hst hsm hd kk
  rw [if_neg h1] at kk
  by_cases h10 : gm_tag μ r = 15
  · rw [if_pos h10] at kk
    exact gm_callU (k0 := 10) [.ref b0] (c_X3_jawTired r b0 μ) h10 rfl MH_5 NP_X5_jawTired B_X3_jawTired hw1 gw_527 gw_525 gw_540 gw_539 (gm_fit_le hfit (Nat.le_of_ble_eq_true rfl) (Nat.le_of_ble_eq_true rfl)) hst hsm hd kk
  rw [if_neg h10] at kk
  obtain ⟨k0, -⟩ := kk
  rw [k0 rfl]
  exact gm_no
theorem d_X2_passMinute_0 : decode prog_4_method_5_code 0 = .ok (.aload_n 0, 1) := ge_aload_n_0 (by decide +kernel)
theorem d_X2_passMinute_1 : decode prog_4_method_5_code 1 = .ok (.getfield 35, 3) := ge_getfield (by decide +kernel)
theorem d_X2_passMinute_4 : decode prog_4_method_5_code 4 = .ok (.ifCond .le 25, 3) := ge_ifCond_le (by decide +kernel)
theorem d_X2_passMinute_7 : decode prog_4_method_5_code 7 = .ok (.aload_n 0, 1) := ge_aload_n_0 (by decide +kernel)
theorem d_X2_passMinute_8 : decode prog_4_method_5_code 8 = .ok (.iconst 0, 1) := ge_iconst_0 (by decide +kernel)
theorem d_X2_passMinute_9 : decode prog_4_method_5_code 9 = .ok (.aload_n 0, 1) := ge_aload_n_0 (by decide +kernel)
theorem d_X2_passMinute_10 : decode prog_4_method_5_code 10 = .ok (.getfield 35, 3) := ge_getfield (by decide +kernel)
theorem d_X2_passMinute_13 : decode prog_4_method_5_code 13 = .ok (.aload_n 0, 1) := ge_aload_n_0 (by decide +kernel)
theorem d_X2_passMinute_14 : decode prog_4_method_5_code 14 = .ok (.getfield 23, 3) := ge_getfield (by decide +kernel)
theorem d_X2_passMinute_17 : decode prog_4_method_5_code 17 = .ok (.isub, 1) := ge_isub (by decide +kernel)
theorem d_X2_passMinute_18 : decode prog_4_method_5_code 18 = .ok (.iconst 1, 1) := ge_iconst_1 (by decide +kernel)
theorem d_X2_passMinute_19 : decode prog_4_method_5_code 19 = .ok (.isub, 1) := ge_isub (by decide +kernel)
theorem d_X2_passMinute_20 : decode prog_4_method_5_code 20 = .ok (.invokestatic 56, 3) := ge_invokestatic (by decide +kernel)
theorem d_X2_passMinute_23 : decode prog_4_method_5_code 23 = .ok (.putfield 35, 3) := ge_putfield (by decide +kernel)
theorem d_X2_passMinute_26 : decode prog_4_method_5_code 26 = .ok (.goto 71, 3) := ge_goto (by decide +kernel)
theorem d_X2_passMinute_29 : decode prog_4_method_5_code 29 = .ok (.aload_n 0, 1) := ge_aload_n_0 (by decide +kernel)
theorem d_X2_passMinute_30 : decode prog_4_method_5_code 30 = .ok (.getfield 26, 3) := ge_getfield (by decide +kernel)
theorem d_X2_passMinute_33 : decode prog_4_method_5_code 33 = .ok (.ifCond .le 50, 3) := ge_ifCond_le (by decide +kernel)
theorem d_X2_passMinute_36 : decode prog_4_method_5_code 36 = .ok (.aload_n 0, 1) := ge_aload_n_0 (by decide +kernel)
theorem d_X2_passMinute_37 : decode prog_4_method_5_code 37 = .ok (.iconst 0, 1) := ge_iconst_0 (by decide +kernel)
theorem d_X2_passMinute_38 : decode prog_4_method_5_code 38 = .ok (.aload_n 0, 1) := ge_aload_n_0 (by decide +kernel)
theorem d_X2_passMinute_39 : decode prog_4_method_5_code 39 = .ok (.getfield 29, 3) := ge_getfield (by decide +kernel)
theorem d_X2_passMinute_42 : decode prog_4_method_5_code 42 = .ok (.aload_n 0, 1) := ge_aload_n_0 (by decide +kernel)
theorem d_X2_passMinute_43 : decode prog_4_method_5_code 43 = .ok (.getfield 19, 3) := ge_getfield (by decide +kernel)
theorem d_X2_passMinute_46 : decode prog_4_method_5_code 46 = .ok (.aload_n 0, 1) := ge_aload_n_0 (by decide +kernel)
theorem d_X2_passMinute_47 : decode prog_4_method_5_code 47 = .ok (.iload_n 1, 1) := ge_iload_n_1 (by decide +kernel)
theorem d_X2_passMinute_48 : decode prog_4_method_5_code 48 = .ok (.invokevirtual 68, 3) := ge_invokevirtual (by decide +kernel)
theorem d_X2_passMinute_51 : decode prog_4_method_5_code 51 = .ok (.isub, 1) := ge_isub (by decide +kernel)
theorem d_X2_passMinute_52 : decode prog_4_method_5_code 52 = .ok (.invokestatic 56, 3) := ge_invokestatic (by decide +kernel)
theorem d_X2_passMinute_55 : decode prog_4_method_5_code 55 = .ok (.putfield 29, 3) := ge_putfield (by decide +kernel)
theorem d_X2_passMinute_58 : decode prog_4_method_5_code 58 = .ok (.aload_n 0, 1) := ge_aload_n_0 (by decide +kernel)
theorem d_X2_passMinute_59 : decode prog_4_method_5_code 59 = .ok (.bipush 99, 2) := ge_bipush (by decide +kernel)
theorem d_X2_passMinute_61 : decode prog_4_method_5_code 61 = .ok (.aload_n 0, 1) := ge_aload_n_0 (by decide +kernel)
theorem d_X2_passMinute_62 : decode prog_4_method_5_code 62 = .ok (.getfield 32, 3) := ge_getfield (by decide +kernel)
theorem d_X2_passMinute_65 : decode prog_4_method_5_code 65 = .ok (.aload_n 0, 1) := ge_aload_n_0 (by decide +kernel)
theorem d_X2_passMinute_66 : decode prog_4_method_5_code 66 = .ok (.getfield 19, 3) := ge_getfield (by decide +kernel)
theorem d_X2_passMinute_69 : decode prog_4_method_5_code 69 = .ok (.aload_n 0, 1) := ge_aload_n_0 (by decide +kernel)
theorem d_X2_passMinute_70 : decode prog_4_method_5_code 70 = .ok (.invokevirtual 71, 3) := ge_invokevirtual (by decide +kernel)
theorem d_X2_passMinute_73 : decode prog_4_method_5_code 73 = .ok (.iadd, 1) := ge_iadd (by decide +kernel)
theorem d_X2_passMinute_74 : decode prog_4_method_5_code 74 = .ok (.invokestatic 75, 3) := ge_invokestatic (by decide +kernel)
theorem d_X2_passMinute_77 : decode prog_4_method_5_code 77 = .ok (.putfield 32, 3) := ge_putfield (by decide +kernel)
theorem d_X2_passMinute_80 : decode prog_4_method_5_code 80 = .ok (.goto 17, 3) := ge_goto (by decide +kernel)
theorem d_X2_passMinute_83 : decode prog_4_method_5_code 83 = .ok (.aload_n 0, 1) := ge_aload_n_0 (by decide +kernel)
theorem d_X2_passMinute_84 : decode prog_4_method_5_code 84 = .ok (.iconst 0, 1) := ge_iconst_0 (by decide +kernel)
theorem d_X2_passMinute_85 : decode prog_4_method_5_code 85 = .ok (.aload_n 0, 1) := ge_aload_n_0 (by decide +kernel)
theorem d_X2_passMinute_86 : decode prog_4_method_5_code 86 = .ok (.getfield 32, 3) := ge_getfield (by decide +kernel)
theorem d_X2_passMinute_89 : decode prog_4_method_5_code 89 = .ok (.iconst 5, 1) := ge_iconst_5 (by decide +kernel)
theorem d_X2_passMinute_90 : decode prog_4_method_5_code 90 = .ok (.isub, 1) := ge_isub (by decide +kernel)
theorem d_X2_passMinute_91 : decode prog_4_method_5_code 91 = .ok (.invokestatic 56, 3) := ge_invokestatic (by decide +kernel)
theorem d_X2_passMinute_94 : decode prog_4_method_5_code 94 = .ok (.putfield 32, 3) := ge_putfield (by decide +kernel)
theorem d_X2_passMinute_97 : decode prog_4_method_5_code 97 = .ok (.return_, 1) := ge_return_ (by decide +kernel)
def f_X2_passMinute (a0 : Nat) (a1 : Int32) (μ : gm_M) : Option (Option Value × gm_M) := gm_gI μ [7] a0 6 (fun v1 => if v1 ≤ 0 then gm_gI μ [7] a0 3 (fun v2 => if v2 ≤ 0 then gm_gI μ [7] a0 5 (fun v3 => gm_pI μ [7] a0 5 (if (0 : Int32) < (v3 - (5 : Int32)) then (v3 - (5 : Int32)) else (0 : Int32)) (fun m5 => some (none, m5))) else gm_gI μ [7] a0 4 (fun v6 => gm_gR μ [7] a0 1 (fun v7 => gm_bI (fv_sugarChewed v7 a0 a1 μ) (fun x9 m8 => gm_pI m8 [7] a0 4 (if (0 : Int32) < (v6 - x9) then (v6 - x9) else (0 : Int32)) (fun m11 => gm_gI m11 [7] a0 5 (fun v12 => gm_gR m11 [7] a0 1 (fun v13 => gm_bI (fv_jawTired v13 a0 m11) (fun x15 m14 => gm_pI m14 [7] a0 5 (if (v12 + x15) < (99 : Int32) then (v12 + x15) else (99 : Int32)) (fun m17 => some (none, m17)))))))))) else gm_gI μ [7] a0 6 (fun v18 => gm_gI μ [7] a0 2 (fun v19 => gm_pI μ [7] a0 6 (if (0 : Int32) < ((v18 - v19) - (1 : Int32)) then ((v18 - v19) - (1 : Int32)) else (0 : Int32)) (fun m21 => some (none, m21)))))
set_option maxHeartbeats 4000000 in
theorem c_X2_passMinute (a0 : Nat) (a1 : Int32) (μ : gm_M) : gm_Call ({ cls := "GumBubble$Child", name := "passMinute", desc := "(I)V" } : Jvm.MethodName) prog_4_method_5_code 2 none 3 0 0 [.ref a0, .int a1] μ (f_X2_passMinute a0 a1 μ) := by
  refine gm_start PN_2 (Nat.le_of_ble_eq_true rfl) (fun res μe => ?_)
  unfold f_X2_passMinute
  show gm_A "GumBubble$Child" (gm_nm "passMinute") _ _ _ _ _ _ _ _ _ 0 [(0, .ref a0), (1, .int a1)] [] _ _
  refine gm_aload_n d_X2_passMinute_0 rfl 0 rfl ?_
  refine gm_getI F_2_bubble gw_192 d_X2_passMinute_1 (fun v1 _ => ?_)
  refine gm_if_le (tgt := 29) d_X2_passMinute_4 (by decide) (fun h4 => ?_) (fun h4 => ?_)
  ·
    refine gm_aload_n d_X2_passMinute_29 rfl 0 rfl ?_
    refine gm_getI F_2_pieces gw_180 d_X2_passMinute_30 (fun v2 _ => ?_)
    refine gm_if_le (tgt := 83) d_X2_passMinute_33 (by decide) (fun h33 => ?_) (fun h33 => ?_)
    ·
      refine gm_aload_n d_X2_passMinute_83 rfl 0 rfl ?_
      refine gm_iconst (v := 0) d_X2_passMinute_84 (by decide) ?_
      refine gm_aload_n d_X2_passMinute_85 rfl 0 rfl ?_
      refine gm_getI F_2_jaw gw_190 d_X2_passMinute_86 (fun v3 _ => ?_)
      refine gm_iconst (v := 5) d_X2_passMinute_89 (by decide) ?_
      refine gm_isub d_X2_passMinute_90 ?_
      refine gm_max gw_550 gw_38 gw_3 (show _ from gw_39) (Nat.le_of_ble_eq_true rfl) (Nat.le_of_ble_eq_true rfl) (Nat.le_of_ble_eq_true rfl) (Nat.le_of_ble_eq_true rfl) rfl d_X2_passMinute_91 ?_
      refine gm_putI F_2_jaw (Or.inl rfl) gw_190 d_X2_passMinute_94 (fun m5 _ => ?_)
      exact gm_vret rfl d_X2_passMinute_97 (Nat.le_of_ble_eq_true rfl) (Nat.le_of_ble_eq_true rfl) (fun h => h)
    ·
      refine gm_aload_n d_X2_passMinute_36 rfl 0 rfl ?_
      refine gm_iconst (v := 0) d_X2_passMinute_37 (by decide) ?_
      refine gm_aload_n d_X2_passMinute_38 rfl 0 rfl ?_
      refine gm_getI F_2_sugar gw_187 d_X2_passMinute_39 (fun v6 _ => ?_)
      refine gm_aload_n d_X2_passMinute_42 rfl 0 rfl ?_
      refine gm_getR F_2_kind gw_171 d_X2_passMinute_43 (fun v7 _ => ?_)
      refine gm_aload_n d_X2_passMinute_46 rfl 0 rfl ?_
      refine gm_iload_n d_X2_passMinute_47 rfl 1 rfl ?_
      refine V_sugarChewed v7 a0 a1 gw_600 rfl rfl rfl d_X2_passMinute_48 (gm_kI (fun x9 m8 => ?_))
      refine gm_isub d_X2_passMinute_51 ?_
      refine gm_max gw_550 gw_38 gw_3 (show _ from gw_39) (Nat.le_of_ble_eq_true rfl) (Nat.le_of_ble_eq_true rfl) (Nat.le_of_ble_eq_true rfl) (Nat.le_of_ble_eq_true rfl) rfl d_X2_passMinute_52 ?_
      refine gm_putI F_2_sugar (Or.inl rfl) gw_187 d_X2_passMinute_55 (fun m11 _ => ?_)
      refine gm_aload_n d_X2_passMinute_58 rfl 0 rfl ?_
      refine gm_bipush (v := 99) d_X2_passMinute_59 (by decide) ?_
      refine gm_aload_n d_X2_passMinute_61 rfl 0 rfl ?_
      refine gm_getI F_2_jaw gw_190 d_X2_passMinute_62 (fun v12 _ => ?_)
      refine gm_aload_n d_X2_passMinute_65 rfl 0 rfl ?_
      refine gm_getR F_2_kind gw_171 d_X2_passMinute_66 (fun v13 _ => ?_)
      refine gm_aload_n d_X2_passMinute_69 rfl 0 rfl ?_
      refine V_jawTired v13 a0 gw_601 rfl rfl rfl d_X2_passMinute_70 (gm_kI (fun x15 m14 => ?_))
      refine gm_iadd d_X2_passMinute_73 ?_
      refine gm_min gw_602 gw_310 gw_3 (show _ from gw_311) (Nat.le_of_ble_eq_true rfl) (Nat.le_of_ble_eq_true rfl) (Nat.le_of_ble_eq_true rfl) (Nat.le_of_ble_eq_true rfl) rfl d_X2_passMinute_74 ?_
      refine gm_putI F_2_jaw (Or.inl rfl) gw_190 d_X2_passMinute_77 (fun m17 _ => ?_)
      refine gm_goto (tgt := 97) d_X2_passMinute_80 (by decide) ?_
      exact gm_vret rfl d_X2_passMinute_97 (Nat.le_of_ble_eq_true rfl) (Nat.le_of_ble_eq_true rfl) (fun h => h)
  ·
    refine gm_aload_n d_X2_passMinute_7 rfl 0 rfl ?_
    refine gm_iconst (v := 0) d_X2_passMinute_8 (by decide) ?_
    refine gm_aload_n d_X2_passMinute_9 rfl 0 rfl ?_
    refine gm_getI F_2_bubble gw_192 d_X2_passMinute_10 (fun v18 _ => ?_)
    refine gm_aload_n d_X2_passMinute_13 rfl 0 rfl ?_
    refine gm_getI F_2_v gw_175 d_X2_passMinute_14 (fun v19 _ => ?_)
    refine gm_isub d_X2_passMinute_17 ?_
    refine gm_iconst (v := 1) d_X2_passMinute_18 (by decide) ?_
    refine gm_isub d_X2_passMinute_19 ?_
    refine gm_max gw_550 gw_38 gw_3 (show _ from gw_39) (Nat.le_of_ble_eq_true rfl) (Nat.le_of_ble_eq_true rfl) (Nat.le_of_ble_eq_true rfl) (Nat.le_of_ble_eq_true rfl) rfl d_X2_passMinute_20 ?_
    refine gm_putI F_2_bubble (Or.inl rfl) gw_192 d_X2_passMinute_23 (fun m21 _ => ?_)
    refine gm_goto (tgt := 97) d_X2_passMinute_26 (by decide) ?_
    exact gm_vret rfl d_X2_passMinute_97 (Nat.le_of_ble_eq_true rfl) (Nat.le_of_ble_eq_true rfl) (fun h => h)
theorem d_X7_isKept_0 : decode prog_9_method_3_code 0 = .ok (.iload_n 1, 1) := ge_iload_n_1 (by decide +kernel)
theorem d_X7_isKept_1 : decode prog_9_method_3_code 1 = .ok (.ifCond .lt 23, 3) := ge_ifCond_lt (by decide +kernel)
theorem d_X7_isKept_4 : decode prog_9_method_3_code 4 = .ok (.iload_n 1, 1) := ge_iload_n_1 (by decide +kernel)
theorem d_X7_isKept_5 : decode prog_9_method_3_code 5 = .ok (.aload_n 0, 1) := ge_aload_n_0 (by decide +kernel)
theorem d_X7_isKept_6 : decode prog_9_method_3_code 6 = .ok (.getfield 23, 3) := ge_getfield (by decide +kernel)
theorem d_X7_isKept_9 : decode prog_9_method_3_code 9 = .ok (.if_icmp .ge 15, 3) := ge_if_icmp_ge (by decide +kernel)
theorem d_X7_isKept_12 : decode prog_9_method_3_code 12 = .ok (.iload_n 1, 1) := ge_iload_n_1 (by decide +kernel)
theorem d_X7_isKept_13 : decode prog_9_method_3_code 13 = .ok (.aload_n 0, 1) := ge_aload_n_0 (by decide +kernel)
theorem d_X7_isKept_14 : decode prog_9_method_3_code 14 = .ok (.getfield 7, 3) := ge_getfield (by decide +kernel)
theorem d_X7_isKept_17 : decode prog_9_method_3_code 17 = .ok (.if_icmp .ge 7, 3) := ge_if_icmp_ge (by decide +kernel)
theorem d_X7_isKept_20 : decode prog_9_method_3_code 20 = .ok (.iconst 1, 1) := ge_iconst_1 (by decide +kernel)
theorem d_X7_isKept_21 : decode prog_9_method_3_code 21 = .ok (.goto 4, 3) := ge_goto (by decide +kernel)
theorem d_X7_isKept_24 : decode prog_9_method_3_code 24 = .ok (.iconst 0, 1) := ge_iconst_0 (by decide +kernel)
theorem d_X7_isKept_25 : decode prog_9_method_3_code 25 = .ok (.ireturn, 1) := ge_ireturn (by decide +kernel)
def f_X7_isKept (a0 : Nat) (a1 : Int32) (μ : gm_M) : Option (Option Value × gm_M) := if a1 < 0 then if (0 : Int32) = 0 ∨ (0 : Int32) = 1 then some (some (.int (0 : Int32)), μ) else none else gm_gI μ [12] a0 2 (fun v1 => if v1 ≤ a1 then if (0 : Int32) = 0 ∨ (0 : Int32) = 1 then some (some (.int (0 : Int32)), μ) else none else gm_gI μ [12] a0 0 (fun v2 => if v2 ≤ a1 then if (0 : Int32) = 0 ∨ (0 : Int32) = 1 then some (some (.int (0 : Int32)), μ) else none else if (1 : Int32) = 0 ∨ (1 : Int32) = 1 then some (some (.int (1 : Int32)), μ) else none))
set_option maxHeartbeats 4000000 in
theorem c_X7_isKept (a0 : Nat) (a1 : Int32) (μ : gm_M) : gm_Call ({ cls := "GumBubble$Rows", name := "isKept", desc := "(I)Z" } : Jvm.MethodName) prog_9_method_3_code 2 (some .boolean) 0 0 0 [.ref a0, .int a1] μ (f_X7_isKept a0 a1 μ) := by
  refine gm_start PN_7 (Nat.le_of_ble_eq_true rfl) (fun res μe => ?_)
  unfold f_X7_isKept
  show gm_A "GumBubble$Rows" (gm_nm "isKept") _ _ _ _ _ _ _ _ _ 0 [(0, .ref a0), (1, .int a1)] [] _ _
  refine gm_iload_n d_X7_isKept_0 rfl 1 rfl ?_
  refine gm_if_lt (tgt := 24) d_X7_isKept_1 (by decide) (fun h1 => ?_) (fun h1 => ?_)
  ·
    refine gm_iconst (v := 0) d_X7_isKept_24 (by decide) ?_
    exact gm_zret rfl d_X7_isKept_25 (Nat.le_of_ble_eq_true rfl) (Nat.le_of_ble_eq_true rfl) (fun h => h)
  ·
    refine gm_iload_n d_X7_isKept_4 rfl 1 rfl ?_
    refine gm_aload_n d_X7_isKept_5 rfl 0 rfl ?_
    refine gm_getI F_7_count gw_42 d_X7_isKept_6 (fun v1 _ => ?_)
    refine gm_icmp_ge (tgt := 24) d_X7_isKept_9 (by decide) (fun h9 => ?_) (fun h9 => ?_)
    ·
      refine gm_iconst (v := 0) d_X7_isKept_24 (by decide) ?_
      exact gm_zret rfl d_X7_isKept_25 (Nat.le_of_ble_eq_true rfl) (Nat.le_of_ble_eq_true rfl) (fun h => h)
    ·
      refine gm_iload_n d_X7_isKept_12 rfl 1 rfl ?_
      refine gm_aload_n d_X7_isKept_13 rfl 0 rfl ?_
      refine gm_getI F_7_limit gw_40 d_X7_isKept_14 (fun v2 _ => ?_)
      refine gm_icmp_ge (tgt := 24) d_X7_isKept_17 (by decide) (fun h17 => ?_) (fun h17 => ?_)
      ·
        refine gm_iconst (v := 0) d_X7_isKept_24 (by decide) ?_
        exact gm_zret rfl d_X7_isKept_25 (Nat.le_of_ble_eq_true rfl) (Nat.le_of_ble_eq_true rfl) (fun h => h)
      ·
        refine gm_iconst (v := 1) d_X7_isKept_20 (by decide) ?_
        refine gm_goto (tgt := 25) d_X7_isKept_21 (by decide) ?_
        exact gm_zret rfl d_X7_isKept_25 (Nat.le_of_ble_eq_true rfl) (Nat.le_of_ble_eq_true rfl) (fun h => h)
theorem d_X7_cell_0 : decode prog_9_method_4_code 0 = .ok (.aload_n 0, 1) := ge_aload_n_0 (by decide +kernel)
theorem d_X7_cell_1 : decode prog_9_method_4_code 1 = .ok (.iload_n 1, 1) := ge_iload_n_1 (by decide +kernel)
theorem d_X7_cell_2 : decode prog_9_method_4_code 2 = .ok (.invokevirtual 26, 3) := ge_invokevirtual (by decide +kernel)
theorem d_X7_cell_5 : decode prog_9_method_4_code 5 = .ok (.ifCond .eq 12, 3) := ge_ifCond_eq (by decide +kernel)
theorem d_X7_cell_8 : decode prog_9_method_4_code 8 = .ok (.iload_n 2, 1) := ge_iload_n_2 (by decide +kernel)
theorem d_X7_cell_9 : decode prog_9_method_4_code 9 = .ok (.ifCond .lt 8, 3) := ge_ifCond_lt (by decide +kernel)
theorem d_X7_cell_12 : decode prog_9_method_4_code 12 = .ok (.iload_n 2, 1) := ge_iload_n_2 (by decide +kernel)
theorem d_X7_cell_13 : decode prog_9_method_4_code 13 = .ok (.iconst 3, 1) := ge_iconst_3 (by decide +kernel)
theorem d_X7_cell_14 : decode prog_9_method_4_code 14 = .ok (.if_icmp .lt 5, 3) := ge_if_icmp_lt (by decide +kernel)
theorem d_X7_cell_17 : decode prog_9_method_4_code 17 = .ok (.iconst 0, 1) := ge_iconst_0 (by decide +kernel)
theorem d_X7_cell_18 : decode prog_9_method_4_code 18 = .ok (.ireturn, 1) := ge_ireturn (by decide +kernel)
theorem d_X7_cell_19 : decode prog_9_method_4_code 19 = .ok (.aload_n 0, 1) := ge_aload_n_0 (by decide +kernel)
theorem d_X7_cell_20 : decode prog_9_method_4_code 20 = .ok (.getfield 19, 3) := ge_getfield (by decide +kernel)
theorem d_X7_cell_23 : decode prog_9_method_4_code 23 = .ok (.iload_n 1, 1) := ge_iload_n_1 (by decide +kernel)
theorem d_X7_cell_24 : decode prog_9_method_4_code 24 = .ok (.iconst 3, 1) := ge_iconst_3 (by decide +kernel)
theorem d_X7_cell_25 : decode prog_9_method_4_code 25 = .ok (.imul, 1) := ge_imul (by decide +kernel)
theorem d_X7_cell_26 : decode prog_9_method_4_code 26 = .ok (.iload_n 2, 1) := ge_iload_n_2 (by decide +kernel)
theorem d_X7_cell_27 : decode prog_9_method_4_code 27 = .ok (.iadd, 1) := ge_iadd (by decide +kernel)
theorem d_X7_cell_28 : decode prog_9_method_4_code 28 = .ok (.iaload, 1) := ge_iaload (by decide +kernel)
theorem d_X7_cell_29 : decode prog_9_method_4_code 29 = .ok (.ireturn, 1) := ge_ireturn (by decide +kernel)
def f_X7_cell (a0 : Nat) (a1 : Int32) (a2 : Int32) (μ : gm_M) : Option (Option Value × gm_M) := if gm_tag μ a0 = 12 then gm_bI (f_X7_isKept a0 a1 μ) (fun x2 m1 => if x2 = 0 then some (some (.int (0 : Int32)), m1) else if a2 < 0 then some (some (.int (0 : Int32)), m1) else if a2 < (3 : Int32) then gm_gR m1 [12] a0 1 (fun v3 => gm_aI m1 v3 ((a1 * (3 : Int32)) + a2) (fun v4 => some (some (.int v4), m1))) else some (some (.int (0 : Int32)), m1)) else none
set_option maxHeartbeats 4000000 in
theorem c_X7_cell (a0 : Nat) (a1 : Int32) (a2 : Int32) (μ : gm_M) : gm_Call ({ cls := "GumBubble$Rows", name := "cell", desc := "(II)I" } : Jvm.MethodName) prog_9_method_4_code 3 (some .int) 1 0 0 [.ref a0, .int a1, .int a2] μ (f_X7_cell a0 a1 a2 μ) := by
  refine gm_start PN_7 (Nat.le_of_ble_eq_true rfl) (fun res μe => ?_)
  unfold f_X7_cell
  show gm_A "GumBubble$Rows" (gm_nm "cell") _ _ _ _ _ _ _ _ _ 0 [(0, .ref a0), (1, .int a1), (2, .int a2)] [] _ _
  refine gm_aload_n d_X7_cell_0 rfl 0 rfl ?_
  refine gm_iload_n d_X7_cell_1 rfl 1 rfl ?_
  refine gm_grd (fun g2 => ?_)
  refine gm_callV (k0 := 7) [.int a1] (c_X7_isKept a0 a1 μ) g2 rfl B_X7_isKept gw_738 gw_740 rfl rfl rfl d_X7_cell_2 (gm_kI (fun x2 m1 => ?_))
  refine gm_if_eq (tgt := 17) d_X7_cell_5 (by decide) (fun h5 => ?_) (fun h5 => ?_)
  ·
    refine gm_iconst (v := 0) d_X7_cell_17 (by decide) ?_
    exact gm_iret rfl d_X7_cell_18 (Nat.le_of_ble_eq_true rfl) (Nat.le_of_ble_eq_true rfl) (fun h => h)
  ·
    refine gm_iload_n d_X7_cell_8 rfl 2 rfl ?_
    refine gm_if_lt (tgt := 17) d_X7_cell_9 (by decide) (fun h9 => ?_) (fun h9 => ?_)
    ·
      refine gm_iconst (v := 0) d_X7_cell_17 (by decide) ?_
      exact gm_iret rfl d_X7_cell_18 (Nat.le_of_ble_eq_true rfl) (Nat.le_of_ble_eq_true rfl) (fun h => h)
    ·
      refine gm_iload_n d_X7_cell_12 rfl 2 rfl ?_
      refine gm_iconst (v := 3) d_X7_cell_13 (by decide) ?_
      refine gm_icmp_lt (tgt := 19) d_X7_cell_14 (by decide) (fun h14 => ?_) (fun h14 => ?_)
      ·
        refine gm_aload_n d_X7_cell_19 rfl 0 rfl ?_
        refine gm_getR F_7_cells gw_41 d_X7_cell_20 (fun v3 _ => ?_)
        refine gm_iload_n d_X7_cell_23 rfl 1 rfl ?_
        refine gm_iconst (v := 3) d_X7_cell_24 (by decide) ?_
        refine gm_imul d_X7_cell_25 ?_
        refine gm_iload_n d_X7_cell_26 rfl 2 rfl ?_
        refine gm_iadd d_X7_cell_27 ?_
        refine gm_iald d_X7_cell_28 (fun v4 _ => ?_)
        exact gm_iret rfl d_X7_cell_29 (Nat.le_of_ble_eq_true rfl) (Nat.le_of_ble_eq_true rfl) (fun h => h)
      ·
        refine gm_iconst (v := 0) d_X7_cell_17 (by decide) ?_
        exact gm_iret rfl d_X7_cell_18 (Nat.le_of_ble_eq_true rfl) (Nat.le_of_ble_eq_true rfl) (fun h => h)
theorem d_X11_tryPlan_0 : decode prog_1_method_56_code 0 = .ok (.aload_n 0, 1) := ge_aload_n_0 (by decide +kernel)
theorem d_X11_tryPlan_1 : decode prog_1_method_56_code 1 = .ok (.getfield 60, 3) := ge_getfield (by decide +kernel)
theorem d_X11_tryPlan_4 : decode prog_1_method_56_code 4 = .ok (.getfield 144, 3) := ge_getfield (by decide +kernel)
theorem d_X11_tryPlan_7 : decode prog_1_method_56_code 7 = .ok (.istore_n 1, 1) := ge_istore_n_1 (by decide +kernel)
theorem d_X11_tryPlan_8 : decode prog_1_method_56_code 8 = .ok (.iconst 0, 1) := ge_iconst_0 (by decide +kernel)
theorem d_X11_tryPlan_9 : decode prog_1_method_56_code 9 = .ok (.istore_n 2, 1) := ge_istore_n_2 (by decide +kernel)
theorem d_X11_tryPlan_10 : decode prog_1_method_56_code 10 = .ok (.iload_n 2, 1) := ge_iload_n_2 (by decide +kernel)
theorem d_X11_tryPlan_11 : decode prog_1_method_56_code 11 = .ok (.aload_n 0, 1) := ge_aload_n_0 (by decide +kernel)
theorem d_X11_tryPlan_12 : decode prog_1_method_56_code 12 = .ok (.getfield 60, 3) := ge_getfield (by decide +kernel)
theorem d_X11_tryPlan_15 : decode prog_1_method_56_code 15 = .ok (.getfield 250, 3) := ge_getfield (by decide +kernel)
theorem d_X11_tryPlan_18 : decode prog_1_method_56_code 18 = .ok (.getfield 259, 3) := ge_getfield (by decide +kernel)
theorem d_X11_tryPlan_21 : decode prog_1_method_56_code 21 = .ok (.if_icmp .ge 68, 3) := ge_if_icmp_ge (by decide +kernel)
theorem d_X11_tryPlan_24 : decode prog_1_method_56_code 24 = .ok (.aload_n 0, 1) := ge_aload_n_0 (by decide +kernel)
theorem d_X11_tryPlan_25 : decode prog_1_method_56_code 25 = .ok (.getfield 60, 3) := ge_getfield (by decide +kernel)
theorem d_X11_tryPlan_28 : decode prog_1_method_56_code 28 = .ok (.getfield 250, 3) := ge_getfield (by decide +kernel)
theorem d_X11_tryPlan_31 : decode prog_1_method_56_code 31 = .ok (.iload_n 2, 1) := ge_iload_n_2 (by decide +kernel)
theorem d_X11_tryPlan_32 : decode prog_1_method_56_code 32 = .ok (.iconst 0, 1) := ge_iconst_0 (by decide +kernel)
theorem d_X11_tryPlan_33 : decode prog_1_method_56_code 33 = .ok (.invokevirtual 262, 3) := ge_invokevirtual (by decide +kernel)
theorem d_X11_tryPlan_36 : decode prog_1_method_56_code 36 = .ok (.istore_n 3, 1) := ge_istore_n_3 (by decide +kernel)
theorem d_X11_tryPlan_37 : decode prog_1_method_56_code 37 = .ok (.iload_n 3, 1) := ge_iload_n_3 (by decide +kernel)
theorem d_X11_tryPlan_38 : decode prog_1_method_56_code 38 = .ok (.ifCond .ne 17, 3) := ge_ifCond_ne (by decide +kernel)
theorem d_X11_tryPlan_41 : decode prog_1_method_56_code 41 = .ok (.aload_n 0, 1) := ge_aload_n_0 (by decide +kernel)
theorem d_X11_tryPlan_42 : decode prog_1_method_56_code 42 = .ok (.getfield 72, 3) := ge_getfield (by decide +kernel)
theorem d_X11_tryPlan_45 : decode prog_1_method_56_code 45 = .ok (.iload_n 1, 1) := ge_iload_n_1 (by decide +kernel)
theorem d_X11_tryPlan_46 : decode prog_1_method_56_code 46 = .ok (.invokevirtual 179, 3) := ge_invokevirtual (by decide +kernel)
theorem d_X11_tryPlan_49 : decode prog_1_method_56_code 49 = .ok (.iinc 1 1, 3) := ge_iinc (by decide +kernel)
theorem d_X11_tryPlan_52 : decode prog_1_method_56_code 52 = .ok (.goto 31, 3) := ge_goto (by decide +kernel)
theorem d_X11_tryPlan_55 : decode prog_1_method_56_code 55 = .ok (.aload_n 0, 1) := ge_aload_n_0 (by decide +kernel)
theorem d_X11_tryPlan_56 : decode prog_1_method_56_code 56 = .ok (.getfield 60, 3) := ge_getfield (by decide +kernel)
theorem d_X11_tryPlan_59 : decode prog_1_method_56_code 59 = .ok (.getfield 250, 3) := ge_getfield (by decide +kernel)
theorem d_X11_tryPlan_62 : decode prog_1_method_56_code 62 = .ok (.iload_n 2, 1) := ge_iload_n_2 (by decide +kernel)
theorem d_X11_tryPlan_63 : decode prog_1_method_56_code 63 = .ok (.iconst 1, 1) := ge_iconst_1 (by decide +kernel)
theorem d_X11_tryPlan_64 : decode prog_1_method_56_code 64 = .ok (.invokevirtual 262, 3) := ge_invokevirtual (by decide +kernel)
theorem d_X11_tryPlan_67 : decode prog_1_method_56_code 67 = .ok (.aload_n 0, 1) := ge_aload_n_0 (by decide +kernel)
theorem d_X11_tryPlan_68 : decode prog_1_method_56_code 68 = .ok (.getfield 72, 3) := ge_getfield (by decide +kernel)
theorem d_X11_tryPlan_71 : decode prog_1_method_56_code 71 = .ok (.getfield 301, 3) := ge_getfield (by decide +kernel)
theorem d_X11_tryPlan_74 : decode prog_1_method_56_code 74 = .ok (.if_icmp .ne 9, 3) := ge_if_icmp_ne (by decide +kernel)
theorem d_X11_tryPlan_77 : decode prog_1_method_56_code 77 = .ok (.aload_n 0, 1) := ge_aload_n_0 (by decide +kernel)
theorem d_X11_tryPlan_78 : decode prog_1_method_56_code 78 = .ok (.iload_n 3, 1) := ge_iload_n_3 (by decide +kernel)
theorem d_X11_tryPlan_79 : decode prog_1_method_56_code 79 = .ok (.iload_n 1, 1) := ge_iload_n_1 (by decide +kernel)
theorem d_X11_tryPlan_80 : decode prog_1_method_56_code 80 = .ok (.invokevirtual 302, 3) := ge_invokevirtual (by decide +kernel)
theorem d_X11_tryPlan_83 : decode prog_1_method_56_code 83 = .ok (.iinc 2 1, 3) := ge_iinc (by decide +kernel)
theorem d_X11_tryPlan_86 : decode prog_1_method_56_code 86 = .ok (.goto (-76), 3) := ge_goto (by decide +kernel)
theorem d_X11_tryPlan_89 : decode prog_1_method_56_code 89 = .ok (.return_, 1) := ge_return_ (by decide +kernel)
def f_X11_tryPlan (a0 : Nat) (μ : gm_M) : Option (Option Value × gm_M) := gm_gR μ [16] a0 1 (fun v1 => gm_gI μ [13] v1 0 (fun v2 => gm_loop (fun (s3 : Int32 × Int32 × gm_M) => gm_gR s3.2.2 [16] a0 1 (fun v4 => gm_gR s3.2.2 [13] v4 8 (fun v5 => gm_gI s3.2.2 [12] v5 2 (fun v6 => if v6 ≤ s3.2.1 then some (Sum.inr (none, s3.2.2)) else gm_gR s3.2.2 [16] a0 1 (fun v7 => gm_gR s3.2.2 [13] v7 8 (fun v8 => if gm_tag s3.2.2 v8 = 12 then gm_bI (f_X7_cell v8 s3.2.1 (0 : Int32) s3.2.2) (fun x10 m9 => gm_j (fun (s11 : Int32 × gm_M) => some (Sum.inl (s11.1, (s3.2.1 + (1 : Int32)), s11.2))) (fun j12 => if x10 ≠ 0 then gm_gR m9 [16] a0 1 (fun v13 => gm_gR m9 [13] v13 8 (fun v14 => if gm_tag m9 v14 = 12 then gm_bI (f_X7_cell v14 s3.2.1 (1 : Int32) m9) (fun x16 m15 => gm_gR m15 [16] a0 5 (fun v17 => gm_gI m15 [7] v17 0 (fun v18 => if x16 ≠ v18 then j12 (s3.1, m15) else if gm_tag m15 a0 = 16 then gm_bV (f_X11_tryPlanRow a0 x10 s3.1 m15) (fun m19 => j12 (s3.1, m19)) else none))) else none)) else gm_gR m9 [16] a0 5 (fun v21 => if gm_tag m9 v21 = 7 then gm_bV (f_X2_passMinute v21 s3.1 m9) (fun m22 => j12 ((s3.1 + (1 : Int32)), m22)) else none))) else none)))))) 5000 (v2, (0 : Int32), μ)))
set_option maxHeartbeats 4000000 in
theorem c_X11_tryPlan (a0 : Nat) (μ : gm_M) : gm_Call ({ cls := "GumBubble", name := "tryPlan", desc := "()V" } : Jvm.MethodName) prog_1_method_56_code 4 none 5 0 0 [.ref a0] μ (f_X11_tryPlan a0 μ) := by
  refine gm_start PN_11 (Nat.le_of_ble_eq_true rfl) (fun res μe => ?_)
  unfold f_X11_tryPlan
  show gm_A "GumBubble" (gm_nm "tryPlan") _ _ _ _ _ _ _ _ _ 0 [(0, .ref a0)] [] _ _
  refine gm_aload_n d_X11_tryPlan_0 rfl 0 rfl ?_
  refine gm_getR F_11_now gw_262 d_X11_tryPlan_1 (fun v1 _ => ?_)
  refine gm_getI F_8_minute gw_219 d_X11_tryPlan_4 (fun v2 _ => ?_)
  refine gm_istore_n (L' := [(1, .int v2), (0, .ref a0)]) d_X11_tryPlan_7 rfl (Nat.le_of_ble_eq_true rfl) rfl ?_
  refine gm_iconst (v := 0) d_X11_tryPlan_8 (by decide) ?_
  refine gm_istore_n (L' := [(2, .int (0 : Int32)), (1, .int v2), (0, .ref a0)]) d_X11_tryPlan_9 rfl (Nat.le_of_ble_eq_true rfl) rfl ?_
  refine gm_sub (L' := [(0, .ref a0), (1, .int v2), (2, .int (0 : Int32))]) [2, 1, 0] rfl ?_
  refine gm_lp (S := Int32 × Int32 × gm_M) (fun _ => 0) (fun _ => 0) (fun s3 => s3.2.2) (fun s3 => [(0, .ref a0), (1, .int s3.1), (2, .int s3.2.1)]) (fun _ => []) (fun s3 => ?_) 5000 (v2, (0 : Int32), μ)
  refine gm_iload_n d_X11_tryPlan_10 rfl 2 rfl ?_
  refine gm_aload_n d_X11_tryPlan_11 rfl 0 rfl ?_
  refine gm_getR F_11_now gw_262 d_X11_tryPlan_12 (fun v4 _ => ?_)
  refine gm_getR F_8_plan gw_235 d_X11_tryPlan_15 (fun v5 _ => ?_)
  refine gm_getI F_7_count gw_43 d_X11_tryPlan_18 (fun v6 _ => ?_)
  refine gm_icmp_ge (tgt := 89) d_X11_tryPlan_21 (by decide) (fun h21 => ?_) (fun h21 => ?_)
  ·
    exact gm_vret rfl d_X11_tryPlan_89 (Nat.le_of_ble_eq_true rfl) (Nat.le_of_ble_eq_true rfl) (fun h => h)
  ·
    refine gm_aload_n d_X11_tryPlan_24 rfl 0 rfl ?_
    refine gm_getR F_11_now gw_262 d_X11_tryPlan_25 (fun v7 _ => ?_)
    refine gm_getR F_8_plan gw_235 d_X11_tryPlan_28 (fun v8 _ => ?_)
    refine gm_iload_n d_X11_tryPlan_31 rfl 2 rfl ?_
    refine gm_iconst (v := 0) d_X11_tryPlan_32 (by decide) ?_
    refine gm_grd (fun g33 => ?_)
    refine gm_callV (k0 := 7) [.int s3.2.1, .int (0 : Int32)] (c_X7_cell v8 s3.2.1 (0 : Int32) s3.2.2) g33 rfl B_X7_cell gw_734 gw_736 rfl rfl rfl d_X11_tryPlan_33 (gm_kI (fun x10 m9 => ?_))
    refine gm_istore_n (L' := [(3, .int x10), (0, .ref a0), (1, .int s3.1), (2, .int s3.2.1)]) d_X11_tryPlan_36 rfl (Nat.le_of_ble_eq_true rfl) rfl ?_
    refine gm_iload_n d_X11_tryPlan_37 rfl 0 rfl ?_
    refine gm_join (S := Int32 × gm_M) (pj := 83) (kj := 0) (nj := 0) (fun s11 => s11.2) (fun s11 => [(0, .ref a0), (1, .int s11.1), (2, .int s3.2.1), (3, .int x10)]) (fun s11 => []) (fun s11 => ?_) (fun j12 hj12 => ?_)
    ·
      refine gm_iinc (v := s3.2.1 + (1 : Int32)) (L' := [(2, .int (s3.2.1 + (1 : Int32))), (0, .ref a0), (1, .int s11.1), (3, .int x10)]) d_X11_tryPlan_83 2 rfl rfl (Nat.le_of_ble_eq_true rfl) rfl ?_
      refine gm_goto (tgt := 10) d_X11_tryPlan_86 (by decide) ?_
      refine gm_sub (L' := [(0, .ref a0), (1, .int s11.1), (2, .int (s3.2.1 + (1 : Int32)))]) [1, 2, 0] rfl ?_
      exact gm_back (fun h => h)
    ·
      refine gm_if_ne (tgt := 55) d_X11_tryPlan_38 (by decide) (fun h38 => ?_) (fun h38 => ?_)
      ·
        refine gm_aload_n d_X11_tryPlan_55 rfl 1 rfl ?_
        refine gm_getR F_11_now gw_262 d_X11_tryPlan_56 (fun v13 _ => ?_)
        refine gm_getR F_8_plan gw_235 d_X11_tryPlan_59 (fun v14 _ => ?_)
        refine gm_iload_n d_X11_tryPlan_62 rfl 3 rfl ?_
        refine gm_iconst (v := 1) d_X11_tryPlan_63 (by decide) ?_
        refine gm_grd (fun g64 => ?_)
        refine gm_callV (k0 := 7) [.int s3.2.1, .int (1 : Int32)] (c_X7_cell v14 s3.2.1 (1 : Int32) m9) g64 rfl B_X7_cell gw_734 gw_736 rfl rfl rfl d_X11_tryPlan_64 (gm_kI (fun x16 m15 => ?_))
        refine gm_aload_n d_X11_tryPlan_67 rfl 1 rfl ?_
        refine gm_getR F_11_trial gw_266 d_X11_tryPlan_68 (fun v17 _ => ?_)
        refine gm_getI F_2_number gw_170 d_X11_tryPlan_71 (fun v18 _ => ?_)
        refine gm_icmp_ne (tgt := 83) d_X11_tryPlan_74 (by decide) (fun h74 => ?_) (fun h74 => ?_)
        ·
          refine gm_sub (L' := [(0, .ref a0), (1, .int s3.1), (2, .int s3.2.1), (3, .int x10)]) [1, 2, 3, 0] rfl ?_
          exact hj12 (s3.1, m15)
        ·
          refine gm_aload_n d_X11_tryPlan_77 rfl 1 rfl ?_
          refine gm_iload_n d_X11_tryPlan_78 rfl 0 rfl ?_
          refine gm_iload_n d_X11_tryPlan_79 rfl 2 rfl ?_
          refine gm_grd (fun g80 => ?_)
          refine gm_callV (k0 := 11) [.int x10, .int s3.1] (c_X11_tryPlanRow a0 x10 s3.1 m15) g80 rfl B_X11_tryPlanRow gw_762 gs_24 rfl rfl rfl d_X11_tryPlan_80 (gm_kV (fun m19 => ?_))
          refine gm_sub (L' := [(0, .ref a0), (1, .int s3.1), (2, .int s3.2.1), (3, .int x10)]) [1, 2, 3, 0] rfl ?_
          exact hj12 (s3.1, m19)
      ·
        refine gm_aload_n d_X11_tryPlan_41 rfl 1 rfl ?_
        refine gm_getR F_11_trial gw_266 d_X11_tryPlan_42 (fun v21 _ => ?_)
        refine gm_iload_n d_X11_tryPlan_45 rfl 2 rfl ?_
        refine gm_grd (fun g46 => ?_)
        refine gm_callV (k0 := 2) [.int s3.1] (c_X2_passMinute v21 s3.1 m9) g46 rfl B_X2_passMinute gw_596 gw_598 rfl rfl rfl d_X11_tryPlan_46 (gm_kV (fun m22 => ?_))
        refine gm_iinc (v := s3.1 + (1 : Int32)) (L' := [(1, .int (s3.1 + (1 : Int32))), (3, .int x10), (0, .ref a0), (2, .int s3.2.1)]) d_X11_tryPlan_49 2 rfl rfl (Nat.le_of_ble_eq_true rfl) rfl ?_
        refine gm_goto (tgt := 83) d_X11_tryPlan_52 (by decide) ?_
        refine gm_sub (L' := [(0, .ref a0), (1, .int (s3.1 + (1 : Int32))), (2, .int s3.2.1), (3, .int x10)]) [2, 0, 3, 1] rfl ?_
        exact hj12 ((s3.1 + (1 : Int32)), m22)
theorem d_X2_copy_0 : decode prog_4_method_3_code 0 = .ok (.aload_n 0, 1) := ge_aload_n_0 (by decide +kernel)
theorem d_X2_copy_1 : decode prog_4_method_3_code 1 = .ok (.aload_n 1, 1) := ge_aload_n_1 (by decide +kernel)
theorem d_X2_copy_2 : decode prog_4_method_3_code 2 = .ok (.getfield 15, 3) := ge_getfield (by decide +kernel)
theorem d_X2_copy_5 : decode prog_4_method_3_code 5 = .ok (.putfield 15, 3) := ge_putfield (by decide +kernel)
theorem d_X2_copy_8 : decode prog_4_method_3_code 8 = .ok (.aload_n 0, 1) := ge_aload_n_0 (by decide +kernel)
theorem d_X2_copy_9 : decode prog_4_method_3_code 9 = .ok (.aload_n 1, 1) := ge_aload_n_1 (by decide +kernel)
theorem d_X2_copy_10 : decode prog_4_method_3_code 10 = .ok (.getfield 19, 3) := ge_getfield (by decide +kernel)
theorem d_X2_copy_13 : decode prog_4_method_3_code 13 = .ok (.putfield 19, 3) := ge_putfield (by decide +kernel)
theorem d_X2_copy_16 : decode prog_4_method_3_code 16 = .ok (.aload_n 0, 1) := ge_aload_n_0 (by decide +kernel)
theorem d_X2_copy_17 : decode prog_4_method_3_code 17 = .ok (.aload_n 1, 1) := ge_aload_n_1 (by decide +kernel)
theorem d_X2_copy_18 : decode prog_4_method_3_code 18 = .ok (.getfield 23, 3) := ge_getfield (by decide +kernel)
theorem d_X2_copy_21 : decode prog_4_method_3_code 21 = .ok (.putfield 23, 3) := ge_putfield (by decide +kernel)
theorem d_X2_copy_24 : decode prog_4_method_3_code 24 = .ok (.aload_n 0, 1) := ge_aload_n_0 (by decide +kernel)
theorem d_X2_copy_25 : decode prog_4_method_3_code 25 = .ok (.aload_n 1, 1) := ge_aload_n_1 (by decide +kernel)
theorem d_X2_copy_26 : decode prog_4_method_3_code 26 = .ok (.getfield 26, 3) := ge_getfield (by decide +kernel)
theorem d_X2_copy_29 : decode prog_4_method_3_code 29 = .ok (.putfield 26, 3) := ge_putfield (by decide +kernel)
theorem d_X2_copy_32 : decode prog_4_method_3_code 32 = .ok (.aload_n 0, 1) := ge_aload_n_0 (by decide +kernel)
theorem d_X2_copy_33 : decode prog_4_method_3_code 33 = .ok (.aload_n 1, 1) := ge_aload_n_1 (by decide +kernel)
theorem d_X2_copy_34 : decode prog_4_method_3_code 34 = .ok (.getfield 29, 3) := ge_getfield (by decide +kernel)
theorem d_X2_copy_37 : decode prog_4_method_3_code 37 = .ok (.putfield 29, 3) := ge_putfield (by decide +kernel)
theorem d_X2_copy_40 : decode prog_4_method_3_code 40 = .ok (.aload_n 0, 1) := ge_aload_n_0 (by decide +kernel)
theorem d_X2_copy_41 : decode prog_4_method_3_code 41 = .ok (.aload_n 1, 1) := ge_aload_n_1 (by decide +kernel)
theorem d_X2_copy_42 : decode prog_4_method_3_code 42 = .ok (.getfield 32, 3) := ge_getfield (by decide +kernel)
theorem d_X2_copy_45 : decode prog_4_method_3_code 45 = .ok (.putfield 32, 3) := ge_putfield (by decide +kernel)
theorem d_X2_copy_48 : decode prog_4_method_3_code 48 = .ok (.aload_n 0, 1) := ge_aload_n_0 (by decide +kernel)
theorem d_X2_copy_49 : decode prog_4_method_3_code 49 = .ok (.aload_n 1, 1) := ge_aload_n_1 (by decide +kernel)
theorem d_X2_copy_50 : decode prog_4_method_3_code 50 = .ok (.getfield 35, 3) := ge_getfield (by decide +kernel)
theorem d_X2_copy_53 : decode prog_4_method_3_code 53 = .ok (.putfield 35, 3) := ge_putfield (by decide +kernel)
theorem d_X2_copy_56 : decode prog_4_method_3_code 56 = .ok (.aload_n 0, 1) := ge_aload_n_0 (by decide +kernel)
theorem d_X2_copy_57 : decode prog_4_method_3_code 57 = .ok (.aload_n 1, 1) := ge_aload_n_1 (by decide +kernel)
theorem d_X2_copy_58 : decode prog_4_method_3_code 58 = .ok (.getfield 38, 3) := ge_getfield (by decide +kernel)
theorem d_X2_copy_61 : decode prog_4_method_3_code 61 = .ok (.putfield 38, 3) := ge_putfield (by decide +kernel)
theorem d_X2_copy_64 : decode prog_4_method_3_code 64 = .ok (.aload_n 1, 1) := ge_aload_n_1 (by decide +kernel)
theorem d_X2_copy_65 : decode prog_4_method_3_code 65 = .ok (.getfield 9, 3) := ge_getfield (by decide +kernel)
theorem d_X2_copy_68 : decode prog_4_method_3_code 68 = .ok (.iconst 0, 1) := ge_iconst_0 (by decide +kernel)
theorem d_X2_copy_69 : decode prog_4_method_3_code 69 = .ok (.aload_n 0, 1) := ge_aload_n_0 (by decide +kernel)
theorem d_X2_copy_70 : decode prog_4_method_3_code 70 = .ok (.getfield 9, 3) := ge_getfield (by decide +kernel)
theorem d_X2_copy_73 : decode prog_4_method_3_code 73 = .ok (.iconst 0, 1) := ge_iconst_0 (by decide +kernel)
theorem d_X2_copy_74 : decode prog_4_method_3_code 74 = .ok (.aload_n 0, 1) := ge_aload_n_0 (by decide +kernel)
theorem d_X2_copy_75 : decode prog_4_method_3_code 75 = .ok (.getfield 9, 3) := ge_getfield (by decide +kernel)
theorem d_X2_copy_78 : decode prog_4_method_3_code 78 = .ok (.arraylength, 1) := ge_arraylength (by decide +kernel)
theorem d_X2_copy_79 : decode prog_4_method_3_code 79 = .ok (.invokestatic 41, 3) := ge_invokestatic (by decide +kernel)
theorem d_X2_copy_82 : decode prog_4_method_3_code 82 = .ok (.return_, 1) := ge_return_ (by decide +kernel)
def f_X2_copy (a0 : Nat) (a1 : Nat) (μ : gm_M) : Option (Option Value × gm_M) := gm_gI μ [7] a1 0 (fun v1 => gm_pI μ [7] a0 0 v1 (fun m2 => gm_gR m2 [7] a1 1 (fun v3 => gm_pR m2 [7] a0 1 v3 (fun m4 => gm_gI m4 [7] a1 2 (fun v5 => gm_pI m4 [7] a0 2 v5 (fun m6 => gm_gI m6 [7] a1 3 (fun v7 => gm_pI m6 [7] a0 3 v7 (fun m8 => gm_gI m8 [7] a1 4 (fun v9 => gm_pI m8 [7] a0 4 v9 (fun m10 => gm_gI m10 [7] a1 5 (fun v11 => gm_pI m10 [7] a0 5 v11 (fun m12 => gm_gI m12 [7] a1 6 (fun v13 => gm_pI m12 [7] a0 6 v13 (fun m14 => gm_gI m14 [7] a1 7 (fun v15 => gm_pI m14 [7] a0 7 v15 (fun m16 => gm_gR m16 [7] a1 8 (fun v17 => gm_gR m16 [7] a0 8 (fun v18 => gm_gR m16 [7] a0 8 (fun v19 => gm_al m16 1 v19 (fun v20 => gm_cp m16 v17 (0 : Int32) v18 (0 : Int32) v20 (fun m21 => some (none, m21))))))))))))))))))))))
set_option maxHeartbeats 4000000 in
theorem c_X2_copy (a0 : Nat) (a1 : Nat) (μ : gm_M) : gm_Call ({ cls := "GumBubble$Child", name := "copy", desc := "(LGumBubble$Child;)V" } : Jvm.MethodName) prog_4_method_3_code 2 none 1 0 0 [.ref a0, .ref a1] μ (f_X2_copy a0 a1 μ) := by
  refine gm_start PN_2 (Nat.le_of_ble_eq_true rfl) (fun res μe => ?_)
  unfold f_X2_copy
  show gm_A "GumBubble$Child" (gm_nm "copy") _ _ _ _ _ _ _ _ _ 0 [(0, .ref a0), (1, .ref a1)] [] _ _
  refine gm_aload_n d_X2_copy_0 rfl 0 rfl ?_
  refine gm_aload_n d_X2_copy_1 rfl 1 rfl ?_
  refine gm_getI F_2_number gw_166 d_X2_copy_2 (fun v1 _ => ?_)
  refine gm_putI F_2_number (Or.inl rfl) gw_166 d_X2_copy_5 (fun m2 _ => ?_)
  refine gm_aload_n d_X2_copy_8 rfl 0 rfl ?_
  refine gm_aload_n d_X2_copy_9 rfl 1 rfl ?_
  refine gm_getR F_2_kind gw_171 d_X2_copy_10 (fun v3 _ => ?_)
  refine gm_putR F_2_kind (Or.inl rfl) gw_171 d_X2_copy_13 (fun m4 _ => ?_)
  refine gm_aload_n d_X2_copy_16 rfl 0 rfl ?_
  refine gm_aload_n d_X2_copy_17 rfl 1 rfl ?_
  refine gm_getI F_2_v gw_175 d_X2_copy_18 (fun v5 _ => ?_)
  refine gm_putI F_2_v (Or.inl rfl) gw_175 d_X2_copy_21 (fun m6 _ => ?_)
  refine gm_aload_n d_X2_copy_24 rfl 0 rfl ?_
  refine gm_aload_n d_X2_copy_25 rfl 1 rfl ?_
  refine gm_getI F_2_pieces gw_180 d_X2_copy_26 (fun v7 _ => ?_)
  refine gm_putI F_2_pieces (Or.inl rfl) gw_180 d_X2_copy_29 (fun m8 _ => ?_)
  refine gm_aload_n d_X2_copy_32 rfl 0 rfl ?_
  refine gm_aload_n d_X2_copy_33 rfl 1 rfl ?_
  refine gm_getI F_2_sugar gw_187 d_X2_copy_34 (fun v9 _ => ?_)
  refine gm_putI F_2_sugar (Or.inl rfl) gw_187 d_X2_copy_37 (fun m10 _ => ?_)
  refine gm_aload_n d_X2_copy_40 rfl 0 rfl ?_
  refine gm_aload_n d_X2_copy_41 rfl 1 rfl ?_
  refine gm_getI F_2_jaw gw_190 d_X2_copy_42 (fun v11 _ => ?_)
  refine gm_putI F_2_jaw (Or.inl rfl) gw_190 d_X2_copy_45 (fun m12 _ => ?_)
  refine gm_aload_n d_X2_copy_48 rfl 0 rfl ?_
  refine gm_aload_n d_X2_copy_49 rfl 1 rfl ?_
  refine gm_getI F_2_bubble gw_192 d_X2_copy_50 (fun v13 _ => ?_)
  refine gm_putI F_2_bubble (Or.inl rfl) gw_192 d_X2_copy_53 (fun m14 _ => ?_)
  refine gm_aload_n d_X2_copy_56 rfl 0 rfl ?_
  refine gm_aload_n d_X2_copy_57 rfl 1 rfl ?_
  refine gm_getI F_2_hair gw_194 d_X2_copy_58 (fun v15 _ => ?_)
  refine gm_putI F_2_hair (Or.inl rfl) gw_194 d_X2_copy_61 (fun m16 _ => ?_)
  refine gm_aload_n d_X2_copy_64 rfl 1 rfl ?_
  refine gm_getR F_2_row gw_196 d_X2_copy_65 (fun v17 _ => ?_)
  refine gm_iconst (v := 0) d_X2_copy_68 (by decide) ?_
  refine gm_aload_n d_X2_copy_69 rfl 0 rfl ?_
  refine gm_getR F_2_row gw_196 d_X2_copy_70 (fun v18 _ => ?_)
  refine gm_iconst (v := 0) d_X2_copy_73 (by decide) ?_
  refine gm_aload_n d_X2_copy_74 rfl 0 rfl ?_
  refine gm_getR F_2_row gw_196 d_X2_copy_75 (fun v19 _ => ?_)
  refine gm_alen (Or.inl rfl) d_X2_copy_78 (fun v20 _ => ?_)
  refine gm_copy gw_589 gw_591 gw_590 gw_20 (Nat.le_of_ble_eq_true rfl) (Nat.le_of_ble_eq_true rfl) rfl d_X2_copy_79 (fun m21 _ => ?_)
  exact gm_vret rfl d_X2_copy_82 (Nat.le_of_ble_eq_true rfl) (Nat.le_of_ble_eq_true rfl) (fun h => h)
