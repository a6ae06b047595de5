section
theorem d_X11_beats_0 : decode prog_1_method_20_code 0 = .ok (.aload_n 0, 1) := ge_aload_n_0 (by decide +kernel)
theorem d_X11_beats_1 : decode prog_1_method_20_code 1 = .ok (.iload_n 1, 1) := ge_iload_n_1 (by decide +kernel)
theorem d_X11_beats_2 : decode prog_1_method_20_code 2 = .ok (.invokevirtual 115, 3) := ge_invokevirtual (by decide +kernel)
theorem d_X11_beats_5 : decode prog_1_method_20_code 5 = .ok (.ifCond .ne 25, 3) := ge_ifCond_ne (by decide +kernel)
theorem d_X11_beats_8 : decode prog_1_method_20_code 8 = .ok (.aload_n 0, 1) := ge_aload_n_0 (by decide +kernel)
theorem d_X11_beats_9 : decode prog_1_method_20_code 9 = .ok (.iload_n 2, 1) := ge_iload_n_2 (by decide +kernel)
theorem d_X11_beats_10 : decode prog_1_method_20_code 10 = .ok (.invokevirtual 115, 3) := ge_invokevirtual (by decide +kernel)
theorem d_X11_beats_13 : decode prog_1_method_20_code 13 = .ok (.ifCond .ne 17, 3) := ge_ifCond_ne (by decide +kernel)
theorem d_X11_beats_16 : decode prog_1_method_20_code 16 = .ok (.iload_n 3, 1) := ge_iload_n_3 (by decide +kernel)
theorem d_X11_beats_17 : decode prog_1_method_20_code 17 = .ok (.iconst 0, 1) := ge_iconst_0 (by decide +kernel)
theorem d_X11_beats_18 : decode prog_1_method_20_code 18 = .ok (.iconst 1, 1) := ge_iconst_1 (by decide +kernel)
theorem d_X11_beats_19 : decode prog_1_method_20_code 19 = .ok (.invokestatic 76, 3) := ge_invokestatic (by decide +kernel)
theorem d_X11_beats_22 : decode prog_1_method_20_code 22 = .ok (.ifCond .ne 8, 3) := ge_ifCond_ne (by decide +kernel)
theorem d_X11_beats_25 : decode prog_1_method_20_code 25 = .ok (.iload_n 1, 1) := ge_iload_n_1 (by decide +kernel)
theorem d_X11_beats_26 : decode prog_1_method_20_code 26 = .ok (.iload_n 2, 1) := ge_iload_n_2 (by decide +kernel)
theorem d_X11_beats_27 : decode prog_1_method_20_code 27 = .ok (.if_icmp .ne 7, 3) := ge_if_icmp_ne (by decide +kernel)
theorem d_X11_beats_30 : decode prog_1_method_20_code 30 = .ok (.ldc2_w 202, 3) := ge_ldc2_w (by decide +kernel)
theorem d_X11_beats_33 : decode prog_1_method_20_code 33 = .ok (.lreturn, 1) := ge_lreturn (by decide +kernel)
theorem d_X11_beats_34 : decode prog_1_method_20_code 34 = .ok (.aload_n 0, 1) := ge_aload_n_0 (by decide +kernel)
theorem d_X11_beats_35 : decode prog_1_method_20_code 35 = .ok (.iload_n 1, 1) := ge_iload_n_1 (by decide +kernel)
theorem d_X11_beats_36 : decode prog_1_method_20_code 36 = .ok (.invokevirtual 158, 3) := ge_invokevirtual (by decide +kernel)
theorem d_X11_beats_39 : decode prog_1_method_20_code 39 = .ok (.istore 4, 2) := ge_istore (by decide +kernel)
theorem d_X11_beats_41 : decode prog_1_method_20_code 41 = .ok (.aload_n 0, 1) := ge_aload_n_0 (by decide +kernel)
theorem d_X11_beats_42 : decode prog_1_method_20_code 42 = .ok (.iload_n 2, 1) := ge_iload_n_2 (by decide +kernel)
theorem d_X11_beats_43 : decode prog_1_method_20_code 43 = .ok (.invokevirtual 158, 3) := ge_invokevirtual (by decide +kernel)
theorem d_X11_beats_46 : decode prog_1_method_20_code 46 = .ok (.istore 5, 2) := ge_istore (by decide +kernel)
theorem d_X11_beats_48 : decode prog_1_method_20_code 48 = .ok (.iconst 0, 1) := ge_iconst_0 (by decide +kernel)
theorem d_X11_beats_49 : decode prog_1_method_20_code 49 = .ok (.istore 6, 2) := ge_istore (by decide +kernel)
theorem d_X11_beats_51 : decode prog_1_method_20_code 51 = .ok (.iconst 0, 1) := ge_iconst_0 (by decide +kernel)
theorem d_X11_beats_52 : decode prog_1_method_20_code 52 = .ok (.istore 7, 2) := ge_istore (by decide +kernel)
theorem d_X11_beats_54 : decode prog_1_method_20_code 54 = .ok (.iload 7, 2) := ge_iload (by decide +kernel)
theorem d_X11_beats_56 : decode prog_1_method_20_code 56 = .ok (.bipush 10, 2) := ge_bipush (by decide +kernel)
theorem d_X11_beats_58 : decode prog_1_method_20_code 58 = .ok (.if_icmp .ge 26, 3) := ge_if_icmp_ge (by decide +kernel)
theorem d_X11_beats_61 : decode prog_1_method_20_code 61 = .ok (.iload 6, 2) := ge_iload (by decide +kernel)
theorem d_X11_beats_63 : decode prog_1_method_20_code 63 = .ok (.iload 5, 2) := ge_iload (by decide +kernel)
theorem d_X11_beats_65 : decode prog_1_method_20_code 65 = .ok (.iload 4, 2) := ge_iload (by decide +kernel)
theorem d_X11_beats_67 : decode prog_1_method_20_code 67 = .ok (.iload 7, 2) := ge_iload (by decide +kernel)
theorem d_X11_beats_69 : decode prog_1_method_20_code 69 = .ok (.invokestatic 211, 3) := ge_invokestatic (by decide +kernel)
theorem d_X11_beats_72 : decode prog_1_method_20_code 72 = .ok (.invokestatic 217, 3) := ge_invokestatic (by decide +kernel)
theorem d_X11_beats_75 : decode prog_1_method_20_code 75 = .ok (.iadd, 1) := ge_iadd (by decide +kernel)
theorem d_X11_beats_76 : decode prog_1_method_20_code 76 = .ok (.istore 6, 2) := ge_istore (by decide +kernel)
theorem d_X11_beats_78 : decode prog_1_method_20_code 78 = .ok (.iinc 7 1, 3) := ge_iinc (by decide +kernel)
theorem d_X11_beats_81 : decode prog_1_method_20_code 81 = .ok (.goto (-27), 3) := ge_goto (by decide +kernel)
theorem d_X11_beats_84 : decode prog_1_method_20_code 84 = .ok (.iload 6, 2) := ge_iload (by decide +kernel)
theorem d_X11_beats_86 : decode prog_1_method_20_code 86 = .ok (.bipush 100, 2) := ge_bipush (by decide +kernel)
theorem d_X11_beats_88 : decode prog_1_method_20_code 88 = .ok (.iload_n 3, 1) := ge_iload_n_3 (by decide +kernel)
theorem d_X11_beats_89 : decode prog_1_method_20_code 89 = .ok (.invokestatic 207, 3) := ge_invokestatic (by decide +kernel)
theorem d_X11_beats_92 : decode prog_1_method_20_code 92 = .ok (.lreturn, 1) := ge_lreturn (by decide +kernel)
def f_X11_beats (a0 : Nat) (a1 : Int32) (a2 : Int32) (a3 : Int32) (μ : gm_M) : Option (Option Value × gm_M) := if gm_tag μ a0 = 16 then gm_bI (f_X11_isNobody a0 a1 μ) (fun x2 m1 => gm_j (fun (s3 : gm_M) => some (some (.long (-9223372036854775808 : Int64)), s3)) (fun j4 => if x2 ≠ 0 then j4 m1 else if gm_tag m1 a0 = 16 then gm_bI (f_X11_isNobody a0 a2 m1) (fun x6 m5 => if x6 ≠ 0 then j4 m5 else gm_bI (f_X11_isOutside a3 (0 : Int32) (1 : Int32) m5) (fun x8 m7 => if x8 ≠ 0 then j4 m7 else if a1 ≠ a2 then if gm_tag m7 a0 = 16 then gm_bI (f_X11_holdsNow a0 a1 m7) (fun x10 m9 => if gm_tag m9 a0 = 16 then gm_bI (f_X11_holdsNow a0 a2 m9) (fun x12 m11 => gm_loop (fun (s13 : Int32 × Int32 × gm_M) => if (10 : Int32) ≤ s13.2.1 then gm_bL (f_X11_fraction s13.1 (100 : Int32) a3 s13.2.2) (fun x15 m14 => some (Sum.inr (some (.long x15), m14))) else gm_bI (f_X11_thinned x10 s13.2.1 s13.2.2) (fun x17 m16 => gm_bI (f_X11_thinsBelow x12 x17 m16) (fun x19 m18 => some (Sum.inl ((s13.1 + x19), (s13.2.1 + (1 : Int32)), m18))))) 5000 ((0 : Int32), (0 : Int32), m11)) else none) else none else j4 m7)) else none)) else none
set_option maxHeartbeats 4000000 in
theorem c_X11_beats (a0 : Nat) (a1 : Int32) (a2 : Int32) (a3 : Int32) (μ : gm_M) : gm_Call ({ cls := "GumBubble", name := "beats", desc := "(III)J" } : Jvm.MethodName) prog_1_method_20_code 8 (some .long) 5 0 0 [.ref a0, .int a1, .int a2, .int a3] μ (f_X11_beats a0 a1 a2 a3 μ) := by
  refine gm_start PN_11 (Nat.le_of_ble_eq_true rfl) (fun res μe => ?_)
  unfold f_X11_beats
  show gm_A "GumBubble" (gm_nm "beats") _ _ _ _ _ _ _ _ _ 0 [(0, .ref a0), (1, .int a1), (2, .int a2), (3, .int a3)] [] _ _
  refine gm_aload_n d_X11_beats_0 rfl 0 rfl ?_
  refine gm_iload_n d_X11_beats_1 rfl 1 rfl ?_
  refine gm_grd (fun g2 => ?_)
  refine gm_callV (k0 := 11) [.int a1] (c_X11_isNobody a0 a1 μ) g2 rfl B_X11_isNobody gw_478 gs_11 rfl rfl rfl d_X11_beats_2 (gm_kI (fun x2 m1 => ?_))
  refine gm_join (S := gm_M) (pj := 30) (kj := 0) (nj := 0) (fun s3 => s3) (fun s3 => [(0, .ref a0), (1, .int a1), (2, .int a2), (3, .int a3)]) (fun s3 => []) (fun s3 => ?_) (fun j4 hj4 => ?_)
  ·
    refine gm_ldc2 (v := -9223372036854775808) gw_652 d_X11_beats_30 ?_
    exact gm_lret rfl d_X11_beats_33 (Nat.le_of_ble_eq_true rfl) (Nat.le_of_ble_eq_true rfl) (fun h => h)
  ·
    refine gm_if_ne (tgt := 30) d_X11_beats_5 (by decide) (fun h5 => ?_) (fun h5 => ?_)
    ·
      exact hj4 m1
    ·
      refine gm_aload_n d_X11_beats_8 rfl 0 rfl ?_
      refine gm_iload_n d_X11_beats_9 rfl 2 rfl ?_
      refine gm_grd (fun g10 => ?_)
      refine gm_callV (k0 := 11) [.int a2] (c_X11_isNobody a0 a2 m1) g10 rfl B_X11_isNobody gw_478 gs_11 rfl rfl rfl d_X11_beats_10 (gm_kI (fun x6 m5 => ?_))
      refine gm_if_ne (tgt := 30) d_X11_beats_13 (by decide) (fun h13 => ?_) (fun h13 => ?_)
      ·
        exact hj4 m5
      ·
        refine gm_iload_n d_X11_beats_16 rfl 3 rfl ?_
        refine gm_iconst (v := 0) d_X11_beats_17 (by decide) ?_
        refine gm_iconst (v := 1) d_X11_beats_18 (by decide) ?_
        refine gm_callS [.int a3, .int (0 : Int32), .int (1 : Int32)] (c_X11_isOutside a3 (0 : Int32) (1 : Int32) m5) B_X11_isOutside gw_296 rfl rfl rfl d_X11_beats_19 (gm_kI (fun x8 m7 => ?_))
        refine gm_if_ne (tgt := 30) d_X11_beats_22 (by decide) (fun h22 => ?_) (fun h22 => ?_)
        ·
          exact hj4 m7
        ·
          refine gm_iload_n d_X11_beats_25 rfl 1 rfl ?_
          refine gm_iload_n d_X11_beats_26 rfl 2 rfl ?_
          refine gm_icmp_ne (tgt := 34) d_X11_beats_27 (by decide) (fun h27 => ?_) (fun h27 => ?_)
          ·
            refine gm_aload_n d_X11_beats_34 rfl 0 rfl ?_
            refine gm_iload_n d_X11_beats_35 rfl 1 rfl ?_
            refine gm_grd (fun g36 => ?_)
            refine gm_callV (k0 := 11) [.int a1] (c_X11_holdsNow a0 a1 m7) g36 rfl B_X11_holdsNow gw_541 gs_13 rfl rfl rfl d_X11_beats_36 (gm_kI (fun x10 m9 => ?_))
            refine gm_istore (L' := [(4, .int x10), (0, .ref a0), (1, .int a1), (2, .int a2), (3, .int a3)]) d_X11_beats_39 (Nat.le_of_ble_eq_true rfl) rfl ?_
            refine gm_aload_n d_X11_beats_41 rfl 1 rfl ?_
            refine gm_iload_n d_X11_beats_42 rfl 3 rfl ?_
            refine gm_grd (fun g43 => ?_)
            refine gm_callV (k0 := 11) [.int a2] (c_X11_holdsNow a0 a2 m9) g43 rfl B_X11_holdsNow gw_541 gs_13 rfl rfl rfl d_X11_beats_43 (gm_kI (fun x12 m11 => ?_))
            refine gm_istore (L' := [(5, .int x12), (4, .int x10), (0, .ref a0), (1, .int a1), (2, .int a2), (3, .int a3)]) d_X11_beats_46 (Nat.le_of_ble_eq_true rfl) rfl ?_
            refine gm_iconst (v := 0) d_X11_beats_48 (by decide) ?_
            refine gm_istore (L' := [(6, .int (0 : Int32)), (5, .int x12), (4, .int x10), (0, .ref a0), (1, .int a1), (2, .int a2), (3, .int a3)]) d_X11_beats_49 (Nat.le_of_ble_eq_true rfl) rfl ?_
            refine gm_iconst (v := 0) d_X11_beats_51 (by decide) ?_
            refine gm_istore (L' := [(7, .int (0 : Int32)), (6, .int (0 : Int32)), (5, .int x12), (4, .int x10), (0, .ref a0), (1, .int a1), (2, .int a2), (3, .int a3)]) d_X11_beats_52 (Nat.le_of_ble_eq_true rfl) rfl ?_
            refine gm_sub (L' := [(0, .ref a0), (1, .int a1), (2, .int a2), (3, .int a3), (4, .int x10), (5, .int x12), (6, .int (0 : Int32)), (7, .int (0 : Int32))]) [4, 5, 6, 7, 3, 2, 1, 0] rfl ?_
            refine gm_lp (S := Int32 × Int32 × gm_M) (fun _ => 0) (fun _ => 0) (fun s13 => s13.2.2) (fun s13 => [(0, .ref a0), (1, .int a1), (2, .int a2), (3, .int a3), (4, .int x10), (5, .int x12), (6, .int s13.1), (7, .int s13.2.1)]) (fun _ => []) (fun s13 => ?_) 5000 ((0 : Int32), (0 : Int32), m11)
            refine gm_iload d_X11_beats_54 7 rfl ?_
            refine gm_bipush (v := 10) d_X11_beats_56 (by decide) ?_
            refine gm_icmp_ge (tgt := 84) d_X11_beats_58 (by decide) (fun h58 => ?_) (fun h58 => ?_)
            ·
              refine gm_iload d_X11_beats_84 6 rfl ?_
              refine gm_bipush (v := 100) d_X11_beats_86 (by decide) ?_
              refine gm_iload_n d_X11_beats_88 rfl 3 rfl ?_
              refine gm_callS [.int s13.1, .int (100 : Int32), .int a3] (c_X11_fraction s13.1 (100 : Int32) a3 s13.2.2) B_X11_fraction gw_662 rfl rfl rfl d_X11_beats_89 (gm_kL (fun x15 m14 => ?_))
              exact gm_lret rfl d_X11_beats_92 (Nat.le_of_ble_eq_true rfl) (Nat.le_of_ble_eq_true rfl) (fun h => h)
            ·
              refine gm_iload d_X11_beats_61 6 rfl ?_
              refine gm_iload d_X11_beats_63 5 rfl ?_
              refine gm_iload d_X11_beats_65 4 rfl ?_
              refine gm_iload d_X11_beats_67 7 rfl ?_
              refine gm_callS [.int x10, .int s13.2.1] (c_X11_thinned x10 s13.2.1 s13.2.2) B_X11_thinned gw_659 rfl rfl rfl d_X11_beats_69 (gm_kI (fun x17 m16 => ?_))
              refine gm_callS [.int x12, .int x17] (c_X11_thinsBelow x12 x17 m16) B_X11_thinsBelow gw_656 rfl rfl rfl d_X11_beats_72 (gm_kI (fun x19 m18 => ?_))
              refine gm_iadd d_X11_beats_75 ?_
              refine gm_istore (L' := [(6, .int (s13.1 + x19)), (0, .ref a0), (1, .int a1), (2, .int a2), (3, .int a3), (4, .int x10), (5, .int x12), (7, .int s13.2.1)]) d_X11_beats_76 (Nat.le_of_ble_eq_true rfl) rfl ?_
              refine gm_iinc (v := s13.2.1 + (1 : Int32)) (L' := [(7, .int (s13.2.1 + (1 : Int32))), (6, .int (s13.1 + x19)), (0, .ref a0), (1, .int a1), (2, .int a2), (3, .int a3), (4, .int x10), (5, .int x12)]) d_X11_beats_78 7 rfl rfl (Nat.le_of_ble_eq_true rfl) rfl ?_
              refine gm_goto (tgt := 54) d_X11_beats_81 (by decide) ?_
              refine gm_sub (L' := [(0, .ref a0), (1, .int a1), (2, .int a2), (3, .int a3), (4, .int x10), (5, .int x12), (6, .int (s13.1 + x19)), (7, .int (s13.2.1 + (1 : Int32)))]) [2, 3, 4, 5, 6, 7, 1, 0] rfl ?_
              exact gm_back (fun h => h)
          ·
            exact hj4 m7
theorem d_X2_breathe_0 : decode prog_4_method_6_code 0 = .ok (.aload_n 0, 1) := ge_aload_n_0 (by decide +kernel)
theorem d_X2_breathe_1 : decode prog_4_method_6_code 1 = .ok (.dup, 1) := ge_dup (by decide +kernel)
theorem d_X2_breathe_2 : decode prog_4_method_6_code 2 = .ok (.getfield 35, 3) := ge_getfield (by decide +kernel)
theorem d_X2_breathe_5 : decode prog_4_method_6_code 5 = .ok (.iload_n 1, 1) := ge_iload_n_1 (by decide +kernel)
theorem d_X2_breathe_6 : decode prog_4_method_6_code 6 = .ok (.iadd, 1) := ge_iadd (by decide +kernel)
theorem d_X2_breathe_7 : decode prog_4_method_6_code 7 = .ok (.putfield 35, 3) := ge_putfield (by decide +kernel)
theorem d_X2_breathe_10 : decode prog_4_method_6_code 10 = .ok (.aload_n 0, 1) := ge_aload_n_0 (by decide +kernel)
theorem d_X2_breathe_11 : decode prog_4_method_6_code 11 = .ok (.getfield 35, 3) := ge_getfield (by decide +kernel)
theorem d_X2_breathe_14 : decode prog_4_method_6_code 14 = .ok (.iload_n 2, 1) := ge_iload_n_2 (by decide +kernel)
theorem d_X2_breathe_15 : decode prog_4_method_6_code 15 = .ok (.if_icmp .gt 5, 3) := ge_if_icmp_gt (by decide +kernel)
theorem d_X2_breathe_18 : decode prog_4_method_6_code 18 = .ok (.iconst 0, 1) := ge_iconst_0 (by decide +kernel)
theorem d_X2_breathe_19 : decode prog_4_method_6_code 19 = .ok (.ireturn, 1) := ge_ireturn (by decide +kernel)
theorem d_X2_breathe_20 : decode prog_4_method_6_code 20 = .ok (.aload_n 0, 1) := ge_aload_n_0 (by decide +kernel)
theorem d_X2_breathe_21 : decode prog_4_method_6_code 21 = .ok (.sipush 9999, 3) := ge_sipush (by decide +kernel)
theorem d_X2_breathe_24 : decode prog_4_method_6_code 24 = .ok (.aload_n 0, 1) := ge_aload_n_0 (by decide +kernel)
theorem d_X2_breathe_25 : decode prog_4_method_6_code 25 = .ok (.getfield 38, 3) := ge_getfield (by decide +kernel)
theorem d_X2_breathe_28 : decode prog_4_method_6_code 28 = .ok (.aload_n 0, 1) := ge_aload_n_0 (by decide +kernel)
theorem d_X2_breathe_29 : decode prog_4_method_6_code 29 = .ok (.getfield 35, 3) := ge_getfield (by decide +kernel)
theorem d_X2_breathe_32 : decode prog_4_method_6_code 32 = .ok (.bipush 10, 2) := ge_bipush (by decide +kernel)
theorem d_X2_breathe_34 : decode prog_4_method_6_code 34 = .ok (.idiv, 1) := ge_idiv (by decide +kernel)
theorem d_X2_breathe_35 : decode prog_4_method_6_code 35 = .ok (.iadd, 1) := ge_iadd (by decide +kernel)
theorem d_X2_breathe_36 : decode prog_4_method_6_code 36 = .ok (.invokestatic 75, 3) := ge_invokestatic (by decide +kernel)
theorem d_X2_breathe_39 : decode prog_4_method_6_code 39 = .ok (.putfield 38, 3) := ge_putfield (by decide +kernel)
theorem d_X2_breathe_42 : decode prog_4_method_6_code 42 = .ok (.aload_n 0, 1) := ge_aload_n_0 (by decide +kernel)
theorem d_X2_breathe_43 : decode prog_4_method_6_code 43 = .ok (.iconst 0, 1) := ge_iconst_0 (by decide +kernel)
theorem d_X2_breathe_44 : decode prog_4_method_6_code 44 = .ok (.putfield 35, 3) := ge_putfield (by decide +kernel)
theorem d_X2_breathe_47 : decode prog_4_method_6_code 47 = .ok (.iconst 1, 1) := ge_iconst_1 (by decide +kernel)
theorem d_X2_breathe_48 : decode prog_4_method_6_code 48 = .ok (.ireturn, 1) := ge_ireturn (by decide +kernel)
def f_X2_breathe (a0 : Nat) (a1 : Int32) (a2 : Int32) (μ : gm_M) : Option (Option Value × gm_M) := gm_gI μ [7] a0 6 (fun v1 => gm_pI μ [7] a0 6 (v1 + a1) (fun m2 => gm_gI m2 [7] a0 6 (fun v3 => if a2 < v3 then gm_gI m2 [7] a0 7 (fun v4 => gm_gI m2 [7] a0 6 (fun v5 => if (10 : Int32) = 0 then none else gm_pI m2 [7] a0 7 (if (v4 + (v5 / (10 : Int32))) < (9999 : Int32) then (v4 + (v5 / (10 : Int32))) else (9999 : Int32)) (fun m7 => gm_pI m7 [7] a0 6 (0 : Int32) (fun m8 => if (1 : Int32) = 0 ∨ (1 : Int32) = 1 then some (some (.int (1 : Int32)), m8) else none)))) else if (0 : Int32) = 0 ∨ (0 : Int32) = 1 then some (some (.int (0 : Int32)), m2) else none)))
set_option maxHeartbeats 4000000 in
theorem c_X2_breathe (a0 : Nat) (a1 : Int32) (a2 : Int32) (μ : gm_M) : gm_Call ({ cls := "GumBubble$Child", name := "breathe", desc := "(II)Z" } : Jvm.MethodName) prog_4_method_6_code 3 (some .boolean) 1 0 0 [.ref a0, .int a1, .int a2] μ (f_X2_breathe a0 a1 a2 μ) := by
  refine gm_start PN_2 (Nat.le_of_ble_eq_true rfl) (fun res μe => ?_)
  unfold f_X2_breathe
  show gm_A "GumBubble$Child" (gm_nm "breathe") _ _ _ _ _ _ _ _ _ 0 [(0, .ref a0), (1, .int a1), (2, .int a2)] [] _ _
  refine gm_aload_n d_X2_breathe_0 rfl 0 rfl ?_
  refine gm_dup d_X2_breathe_1 rfl ?_
  refine gm_getI F_2_bubble gw_192 d_X2_breathe_2 (fun v1 _ => ?_)
  refine gm_iload_n d_X2_breathe_5 rfl 1 rfl ?_
  refine gm_iadd d_X2_breathe_6 ?_
  refine gm_putI F_2_bubble (Or.inl rfl) gw_192 d_X2_breathe_7 (fun m2 _ => ?_)
  refine gm_aload_n d_X2_breathe_10 rfl 0 rfl ?_
  refine gm_getI F_2_bubble gw_192 d_X2_breathe_11 (fun v3 _ => ?_)
  refine gm_iload_n d_X2_breathe_14 rfl 2 rfl ?_
  refine gm_icmp_gt (tgt := 20) d_X2_breathe_15 (by decide) (fun h15 => ?_) (fun h15 => ?_)
  ·
    refine gm_aload_n d_X2_breathe_20 rfl 0 rfl ?_
    refine gm_sipush (v := 9999) d_X2_breathe_21 (by decide) ?_
    refine gm_aload_n d_X2_breathe_24 rfl 0 rfl ?_
    refine gm_getI F_2_hair gw_194 d_X2_breathe_25 (fun v4 _ => ?_)
    refine gm_aload_n d_X2_breathe_28 rfl 0 rfl ?_
    refine gm_getI F_2_bubble gw_192 d_X2_breathe_29 (fun v5 _ => ?_)
    refine gm_bipush (v := 10) d_X2_breathe_32 (by decide) ?_
    refine gm_idiv d_X2_breathe_34 ?_
    refine gm_iadd d_X2_breathe_35 ?_
    refine gm_min gw_602 gw_310 gw_3 (show _ from gw_311) (Nat.le_of_ble_eq_true rfl) (Nat.le_of_ble_eq_true rfl) (Nat.le_of_ble_eq_true rfl) (Nat.le_of_ble_eq_true rfl) rfl d_X2_breathe_36 ?_
    refine gm_putI F_2_hair (Or.inl rfl) gw_194 d_X2_breathe_39 (fun m7 _ => ?_)
    refine gm_aload_n d_X2_breathe_42 rfl 0 rfl ?_
    refine gm_iconst (v := 0) d_X2_breathe_43 (by decide) ?_
    refine gm_putI F_2_bubble (Or.inl rfl) gw_192 d_X2_breathe_44 (fun m8 _ => ?_)
    refine gm_iconst (v := 1) d_X2_breathe_47 (by decide) ?_
    exact gm_zret rfl d_X2_breathe_48 (Nat.le_of_ble_eq_true rfl) (Nat.le_of_ble_eq_true rfl) (fun h => h)
  ·
    refine gm_iconst (v := 0) d_X2_breathe_18 (by decide) ?_
    exact gm_zret rfl d_X2_breathe_19 (Nat.le_of_ble_eq_true rfl) (Nat.le_of_ble_eq_true rfl) (fun h => h)
theorem d_X11_blow_0 : decode prog_1_method_9_code 0 = .ok (.aload_n 0, 1) := ge_aload_n_0 (by decide +kernel)
theorem d_X11_blow_1 : decode prog_1_method_9_code 1 = .ok (.iload_n 1, 1) := ge_iload_n_1 (by decide +kernel)
theorem d_X11_blow_2 : decode prog_1_method_9_code 2 = .ok (.invokevirtual 115, 3) := ge_invokevirtual (by decide +kernel)
theorem d_X11_blow_5 : decode prog_1_method_9_code 5 = .ok (.ifCond .eq 5, 3) := ge_ifCond_eq (by decide +kernel)
theorem d_X11_blow_8 : decode prog_1_method_9_code 8 = .ok (.iconst (-1), 1) := ge_iconst_m1_ (by decide +kernel)
theorem d_X11_blow_9 : decode prog_1_method_9_code 9 = .ok (.ireturn, 1) := ge_ireturn (by decide +kernel)
theorem d_X11_blow_10 : decode prog_1_method_9_code 10 = .ok (.iload_n 2, 1) := ge_iload_n_2 (by decide +kernel)
theorem d_X11_blow_11 : decode prog_1_method_9_code 11 = .ok (.iconst 1, 1) := ge_iconst_1 (by decide +kernel)
theorem d_X11_blow_12 : decode prog_1_method_9_code 12 = .ok (.bipush 99, 2) := ge_bipush (by decide +kernel)
theorem d_X11_blow_14 : decode prog_1_method_9_code 14 = .ok (.invokestatic 76, 3) := ge_invokestatic (by decide +kernel)
theorem d_X11_blow_17 : decode prog_1_method_9_code 17 = .ok (.ifCond .eq 6, 3) := ge_ifCond_eq (by decide +kernel)
theorem d_X11_blow_20 : decode prog_1_method_9_code 20 = .ok (.bipush (-2), 2) := ge_bipush (by decide +kernel)
theorem d_X11_blow_22 : decode prog_1_method_9_code 22 = .ok (.ireturn, 1) := ge_ireturn (by decide +kernel)
theorem d_X11_blow_23 : decode prog_1_method_9_code 23 = .ok (.aload_n 0, 1) := ge_aload_n_0 (by decide +kernel)
theorem d_X11_blow_24 : decode prog_1_method_9_code 24 = .ok (.getfield 60, 3) := ge_getfield (by decide +kernel)
theorem d_X11_blow_27 : decode prog_1_method_9_code 27 = .ok (.getfield 104, 3) := ge_getfield (by decide +kernel)
theorem d_X11_blow_30 : decode prog_1_method_9_code 30 = .ok (.iload_n 1, 1) := ge_iload_n_1 (by decide +kernel)
theorem d_X11_blow_31 : decode prog_1_method_9_code 31 = .ok (.aaload, 1) := ge_aaload (by decide +kernel)
theorem d_X11_blow_32 : decode prog_1_method_9_code 32 = .ok (.astore_n 3, 1) := ge_astore_n_3 (by decide +kernel)
theorem d_X11_blow_33 : decode prog_1_method_9_code 33 = .ok (.aload_n 3, 1) := ge_aload_n_3 (by decide +kernel)
theorem d_X11_blow_34 : decode prog_1_method_9_code 34 = .ok (.getfield 129, 3) := ge_getfield (by decide +kernel)
theorem d_X11_blow_37 : decode prog_1_method_9_code 37 = .ok (.ifCond .ne 6, 3) := ge_ifCond_ne (by decide +kernel)
theorem d_X11_blow_40 : decode prog_1_method_9_code 40 = .ok (.bipush (-3), 2) := ge_bipush (by decide +kernel)
theorem d_X11_blow_42 : decode prog_1_method_9_code 42 = .ok (.ireturn, 1) := ge_ireturn (by decide +kernel)
theorem d_X11_blow_43 : decode prog_1_method_9_code 43 = .ok (.aload_n 3, 1) := ge_aload_n_3 (by decide +kernel)
theorem d_X11_blow_44 : decode prog_1_method_9_code 44 = .ok (.iload_n 2, 1) := ge_iload_n_2 (by decide +kernel)
theorem d_X11_blow_45 : decode prog_1_method_9_code 45 = .ok (.aload_n 0, 1) := ge_aload_n_0 (by decide +kernel)
theorem d_X11_blow_46 : decode prog_1_method_9_code 46 = .ok (.iload_n 1, 1) := ge_iload_n_1 (by decide +kernel)
theorem d_X11_blow_47 : decode prog_1_method_9_code 47 = .ok (.invokevirtual 158, 3) := ge_invokevirtual (by decide +kernel)
theorem d_X11_blow_50 : decode prog_1_method_9_code 50 = .ok (.invokevirtual 175, 3) := ge_invokevirtual (by decide +kernel)
theorem d_X11_blow_53 : decode prog_1_method_9_code 53 = .ok (.istore 4, 2) := ge_istore (by decide +kernel)
theorem d_X11_blow_55 : decode prog_1_method_9_code 55 = .ok (.iload 4, 2) := ge_iload (by decide +kernel)
theorem d_X11_blow_57 : decode prog_1_method_9_code 57 = .ok (.ifCond .eq 8, 3) := ge_ifCond_eq (by decide +kernel)
theorem d_X11_blow_60 : decode prog_1_method_9_code 60 = .ok (.bipush (-6), 2) := ge_bipush (by decide +kernel)
theorem d_X11_blow_62 : decode prog_1_method_9_code 62 = .ok (.goto 7, 3) := ge_goto (by decide +kernel)
theorem d_X11_blow_65 : decode prog_1_method_9_code 65 = .ok (.aload_n 3, 1) := ge_aload_n_3 (by decide +kernel)
theorem d_X11_blow_66 : decode prog_1_method_9_code 66 = .ok (.getfield 138, 3) := ge_getfield (by decide +kernel)
theorem d_X11_blow_69 : decode prog_1_method_9_code 69 = .ok (.ireturn, 1) := ge_ireturn (by decide +kernel)
def f_X11_blow (a0 : Nat) (a1 : Int32) (a2 : Int32) (μ : gm_M) : Option (Option Value × gm_M) := if gm_tag μ a0 = 16 then gm_bI (f_X11_isNobody a0 a1 μ) (fun x2 m1 => if x2 = 0 then gm_bI (f_X11_isOutside a2 (1 : Int32) (99 : Int32) m1) (fun x4 m3 => if x4 = 0 then gm_gR m3 [16] a0 1 (fun v5 => gm_gR m3 [13] v5 2 (fun v6 => gm_aR m3 4 v6 a1 (fun v7 => gm_gI m3 [7] v7 3 (fun v8 => if v8 ≠ 0 then if gm_tag m3 a0 = 16 then gm_bI (f_X11_holdsNow a0 a1 m3) (fun x10 m9 => if gm_tag m9 v7 = 7 then gm_bI (f_X2_breathe v7 a2 x10 m9) (fun x12 m11 => if x12 = 0 then gm_gI m11 [7] v7 6 (fun v13 => some (some (.int v13), m11)) else some (some (.int (-6 : Int32)), m11)) else none) else none else some (some (.int (-3 : Int32)), m3))))) else some (some (.int (-2 : Int32)), m3)) else some (some (.int (-1 : Int32)), m1)) else none
set_option maxHeartbeats 4000000 in
theorem c_X11_blow (a0 : Nat) (a1 : Int32) (a2 : Int32) (μ : gm_M) : gm_Call ({ cls := "GumBubble", name := "blow", desc := "(II)I" } : Jvm.MethodName) prog_1_method_9_code 5 (some .int) 5 0 0 [.ref a0, .int a1, .int a2] μ (f_X11_blow a0 a1 a2 μ) := by
  refine gm_start PN_11 (Nat.le_of_ble_eq_true rfl) (fun res μe => ?_)
  unfold f_X11_blow
  show gm_A "GumBubble" (gm_nm "blow") _ _ _ _ _ _ _ _ _ 0 [(0, .ref a0), (1, .int a1), (2, .int a2)] [] _ _
  refine gm_aload_n d_X11_blow_0 rfl 0 rfl ?_
  refine gm_iload_n d_X11_blow_1 rfl 1 rfl ?_
  refine gm_grd (fun g2 => ?_)
  refine gm_callV (k0 := 11) [.int a1] (c_X11_isNobody a0 a1 μ) g2 rfl B_X11_isNobody gw_478 gs_11 rfl rfl rfl d_X11_blow_2 (gm_kI (fun x2 m1 => ?_))
  refine gm_if_eq (tgt := 10) d_X11_blow_5 (by decide) (fun h5 => ?_) (fun h5 => ?_)
  ·
    refine gm_iload_n d_X11_blow_10 rfl 2 rfl ?_
    refine gm_iconst (v := 1) d_X11_blow_11 (by decide) ?_
    refine gm_bipush (v := 99) d_X11_blow_12 (by decide) ?_
    refine gm_callS [.int a2, .int (1 : Int32), .int (99 : Int32)] (c_X11_isOutside a2 (1 : Int32) (99 : Int32) m1) B_X11_isOutside gw_296 rfl rfl rfl d_X11_blow_14 (gm_kI (fun x4 m3 => ?_))
    refine gm_if_eq (tgt := 23) d_X11_blow_17 (by decide) (fun h17 => ?_) (fun h17 => ?_)
    ·
      refine gm_aload_n d_X11_blow_23 rfl 0 rfl ?_
      refine gm_getR F_11_now gw_262 d_X11_blow_24 (fun v5 _ => ?_)
      refine gm_getR F_8_children gw_223 d_X11_blow_27 (fun v6 _ => ?_)
      refine gm_iload_n d_X11_blow_30 rfl 1 rfl ?_
      refine gm_aald (Or.inr rfl) d_X11_blow_31 (fun v7 _ => ?_)
      refine gm_astore_n (L' := [(3, .ref v7), (0, .ref a0), (1, .int a1), (2, .int a2)]) d_X11_blow_32 rfl (Nat.le_of_ble_eq_true rfl) rfl ?_
      refine gm_aload_n d_X11_blow_33 rfl 0 rfl ?_
      refine gm_getI F_2_pieces gw_185 d_X11_blow_34 (fun v8 _ => ?_)
      refine gm_if_ne (tgt := 43) d_X11_blow_37 (by decide) (fun h37 => ?_) (fun h37 => ?_)
      ·
        refine gm_aload_n d_X11_blow_43 rfl 0 rfl ?_
        refine gm_iload_n d_X11_blow_44 rfl 3 rfl ?_
        refine gm_aload_n d_X11_blow_45 rfl 1 rfl ?_
        refine gm_iload_n d_X11_blow_46 rfl 2 rfl ?_
        refine gm_grd (fun g47 => ?_)
        refine gm_callV (k0 := 11) [.int a1] (c_X11_holdsNow a0 a1 m3) g47 rfl B_X11_holdsNow gw_541 gs_13 rfl rfl rfl d_X11_blow_47 (gm_kI (fun x10 m9 => ?_))
        refine gm_grd (fun g50 => ?_)
        refine gm_callV (k0 := 2) [.int a2, .int x10] (c_X2_breathe v7 a2 x10 m9) g50 rfl B_X2_breathe gw_611 gw_613 rfl rfl rfl d_X11_blow_50 (gm_kI (fun x12 m11 => ?_))
        refine gm_istore (L' := [(4, .int x12), (3, .ref v7), (0, .ref a0), (1, .int a1), (2, .int a2)]) d_X11_blow_53 (Nat.le_of_ble_eq_true rfl) rfl ?_
        refine gm_iload d_X11_blow_55 0 rfl ?_
        refine gm_if_eq (tgt := 65) d_X11_blow_57 (by decide) (fun h57 => ?_) (fun h57 => ?_)
        ·
          refine gm_aload_n d_X11_blow_65 rfl 1 rfl ?_
          refine gm_getI F_2_bubble gw_193 d_X11_blow_66 (fun v13 _ => ?_)
          exact gm_iret rfl d_X11_blow_69 (Nat.le_of_ble_eq_true rfl) (Nat.le_of_ble_eq_true rfl) (fun h => h)
        ·
          refine gm_bipush (v := -6) d_X11_blow_60 (by decide) ?_
          refine gm_goto (tgt := 69) d_X11_blow_62 (by decide) ?_
          exact gm_iret rfl d_X11_blow_69 (Nat.le_of_ble_eq_true rfl) (Nat.le_of_ble_eq_true rfl) (fun h => h)
      ·
        refine gm_bipush (v := -3) d_X11_blow_40 (by decide) ?_
        exact gm_iret rfl d_X11_blow_42 (Nat.le_of_ble_eq_true rfl) (Nat.le_of_ble_eq_true rfl) (fun h => h)
    ·
      refine gm_bipush (v := -2) d_X11_blow_20 (by decide) ?_
      exact gm_iret rfl d_X11_blow_22 (Nat.le_of_ble_eq_true rfl) (Nat.le_of_ble_eq_true rfl) (fun h => h)
  ·
    refine gm_iconst (v := -1) d_X11_blow_8 (by decide) ?_
    exact gm_iret rfl d_X11_blow_9 (Nat.le_of_ble_eq_true rfl) (Nat.le_of_ble_eq_true rfl) (fun h => h)
theorem d_X7_isFull_0 : decode prog_9_method_2_code 0 = .ok (.aload_n 0, 1) := ge_aload_n_0 (by decide +kernel)
theorem d_X7_isFull_1 : decode prog_9_method_2_code 1 = .ok (.getfield 23, 3) := ge_getfield (by decide +kernel)
theorem d_X7_isFull_4 : decode prog_9_method_2_code 4 = .ok (.aload_n 0, 1) := ge_aload_n_0 (by decide +kernel)
theorem d_X7_isFull_5 : decode prog_9_method_2_code 5 = .ok (.getfield 7, 3) := ge_getfield (by decide +kernel)
theorem d_X7_isFull_8 : decode prog_9_method_2_code 8 = .ok (.if_icmp .lt 7, 3) := ge_if_icmp_lt (by decide +kernel)
theorem d_X7_isFull_11 : decode prog_9_method_2_code 11 = .ok (.iconst 1, 1) := ge_iconst_1 (by decide +kernel)
theorem d_X7_isFull_12 : decode prog_9_method_2_code 12 = .ok (.goto 4, 3) := ge_goto (by decide +kernel)
theorem d_X7_isFull_15 : decode prog_9_method_2_code 15 = .ok (.iconst 0, 1) := ge_iconst_0 (by decide +kernel)
theorem d_X7_isFull_16 : decode prog_9_method_2_code 16 = .ok (.ireturn, 1) := ge_ireturn (by decide +kernel)
def f_X7_isFull (a0 : Nat) (μ : gm_M) : Option (Option Value × gm_M) := gm_gI μ [12] a0 2 (fun v1 => gm_gI μ [12] a0 0 (fun v2 => if v1 < v2 then if (0 : Int32) = 0 ∨ (0 : Int32) = 1 then some (some (.int (0 : Int32)), μ) else none else if (1 : Int32) = 0 ∨ (1 : Int32) = 1 then some (some (.int (1 : Int32)), μ) else none))
set_option maxHeartbeats 4000000 in
theorem c_X7_isFull (a0 : Nat) (μ : gm_M) : gm_Call ({ cls := "GumBubble$Rows", name := "isFull", desc := "()Z" } : Jvm.MethodName) prog_9_method_2_code 1 (some .boolean) 0 0 0 [.ref a0] μ (f_X7_isFull a0 μ) := by
  refine gm_start PN_7 (Nat.le_of_ble_eq_true rfl) (fun res μe => ?_)
  unfold f_X7_isFull
  show gm_A "GumBubble$Rows" (gm_nm "isFull") _ _ _ _ _ _ _ _ _ 0 [(0, .ref a0)] [] _ _
  refine gm_aload_n d_X7_isFull_0 rfl 0 rfl ?_
  refine gm_getI F_7_count gw_42 d_X7_isFull_1 (fun v1 _ => ?_)
  refine gm_aload_n d_X7_isFull_4 rfl 0 rfl ?_
  refine gm_getI F_7_limit gw_40 d_X7_isFull_5 (fun v2 _ => ?_)
  refine gm_icmp_lt (tgt := 15) d_X7_isFull_8 (by decide) (fun h8 => ?_) (fun h8 => ?_)
  ·
    refine gm_iconst (v := 0) d_X7_isFull_15 (by decide) ?_
    exact gm_zret rfl d_X7_isFull_16 (Nat.le_of_ble_eq_true rfl) (Nat.le_of_ble_eq_true rfl) (fun h => h)
  ·
    refine gm_iconst (v := 1) d_X7_isFull_11 (by decide) ?_
    refine gm_goto (tgt := 16) d_X7_isFull_12 (by decide) ?_
    exact gm_zret rfl d_X7_isFull_16 (Nat.le_of_ble_eq_true rfl) (Nat.le_of_ble_eq_true rfl) (fun h => h)
theorem d_X11_book_0 : decode prog_1_method_31_code 0 = .ok (.iload_n 1, 1) := ge_iload_n_1 (by decide +kernel)
theorem d_X11_book_1 : decode prog_1_method_31_code 1 = .ok (.iconst (-1), 1) := ge_iconst_m1_ (by decide +kernel)
theorem d_X11_book_2 : decode prog_1_method_31_code 2 = .ok (.if_icmp .ne 14, 3) := ge_if_icmp_ne (by decide +kernel)
theorem d_X11_book_5 : decode prog_1_method_31_code 5 = .ok (.aload_n 0, 1) := ge_aload_n_0 (by decide +kernel)
theorem d_X11_book_6 : decode prog_1_method_31_code 6 = .ok (.getfield 60, 3) := ge_getfield (by decide +kernel)
theorem d_X11_book_9 : decode prog_1_method_31_code 9 = .ok (.getfield 256, 3) := ge_getfield (by decide +kernel)
theorem d_X11_book_12 : decode prog_1_method_31_code 12 = .ok (.invokevirtual 236, 3) := ge_invokevirtual (by decide +kernel)
theorem d_X11_book_15 : decode prog_1_method_31_code 15 = .ok (.ireturn, 1) := ge_ireturn (by decide +kernel)
theorem d_X11_book_16 : decode prog_1_method_31_code 16 = .ok (.aload_n 0, 1) := ge_aload_n_0 (by decide +kernel)
theorem d_X11_book_17 : decode prog_1_method_31_code 17 = .ok (.iload_n 1, 1) := ge_iload_n_1 (by decide +kernel)
theorem d_X11_book_18 : decode prog_1_method_31_code 18 = .ok (.invokevirtual 115, 3) := ge_invokevirtual (by decide +kernel)
theorem d_X11_book_21 : decode prog_1_method_31_code 21 = .ok (.ifCond .eq 5, 3) := ge_ifCond_eq (by decide +kernel)
theorem d_X11_book_24 : decode prog_1_method_31_code 24 = .ok (.iconst (-1), 1) := ge_iconst_m1_ (by decide +kernel)
theorem d_X11_book_25 : decode prog_1_method_31_code 25 = .ok (.ireturn, 1) := ge_ireturn (by decide +kernel)
theorem d_X11_book_26 : decode prog_1_method_31_code 26 = .ok (.iload_n 2, 1) := ge_iload_n_2 (by decide +kernel)
theorem d_X11_book_27 : decode prog_1_method_31_code 27 = .ok (.iconst 0, 1) := ge_iconst_0 (by decide +kernel)
theorem d_X11_book_28 : decode prog_1_method_31_code 28 = .ok (.sipush 999, 3) := ge_sipush (by decide +kernel)
theorem d_X11_book_31 : decode prog_1_method_31_code 31 = .ok (.invokestatic 76, 3) := ge_invokestatic (by decide +kernel)
theorem d_X11_book_34 : decode prog_1_method_31_code 34 = .ok (.ifCond .eq 6, 3) := ge_ifCond_eq (by decide +kernel)
theorem d_X11_book_37 : decode prog_1_method_31_code 37 = .ok (.bipush (-2), 2) := ge_bipush (by decide +kernel)
theorem d_X11_book_39 : decode prog_1_method_31_code 39 = .ok (.ireturn, 1) := ge_ireturn (by decide +kernel)
theorem d_X11_book_40 : decode prog_1_method_31_code 40 = .ok (.aload_n 0, 1) := ge_aload_n_0 (by decide +kernel)
theorem d_X11_book_41 : decode prog_1_method_31_code 41 = .ok (.getfield 60, 3) := ge_getfield (by decide +kernel)
theorem d_X11_book_44 : decode prog_1_method_31_code 44 = .ok (.getfield 256, 3) := ge_getfield (by decide +kernel)
theorem d_X11_book_47 : decode prog_1_method_31_code 47 = .ok (.invokevirtual 239, 3) := ge_invokevirtual (by decide +kernel)
theorem d_X11_book_50 : decode prog_1_method_31_code 50 = .ok (.ifCond .eq 6, 3) := ge_ifCond_eq (by decide +kernel)
theorem d_X11_book_53 : decode prog_1_method_31_code 53 = .ok (.bipush (-4), 2) := ge_bipush (by decide +kernel)
theorem d_X11_book_55 : decode prog_1_method_31_code 55 = .ok (.ireturn, 1) := ge_ireturn (by decide +kernel)
theorem d_X11_book_56 : decode prog_1_method_31_code 56 = .ok (.aload_n 0, 1) := ge_aload_n_0 (by decide +kernel)
theorem d_X11_book_57 : decode prog_1_method_31_code 57 = .ok (.getfield 60, 3) := ge_getfield (by decide +kernel)
theorem d_X11_book_60 : decode prog_1_method_31_code 60 = .ok (.getfield 256, 3) := ge_getfield (by decide +kernel)
theorem d_X11_book_63 : decode prog_1_method_31_code 63 = .ok (.iload_n 1, 1) := ge_iload_n_1 (by decide +kernel)
theorem d_X11_book_64 : decode prog_1_method_31_code 64 = .ok (.iload_n 2, 1) := ge_iload_n_2 (by decide +kernel)
theorem d_X11_book_65 : decode prog_1_method_31_code 65 = .ok (.iconst 0, 1) := ge_iconst_0 (by decide +kernel)
theorem d_X11_book_66 : decode prog_1_method_31_code 66 = .ok (.invokevirtual 243, 3) := ge_invokevirtual (by decide +kernel)
theorem d_X11_book_69 : decode prog_1_method_31_code 69 = .ok (.ireturn, 1) := ge_ireturn (by decide +kernel)
def f_X11_book (a0 : Nat) (a1 : Int32) (a2 : Int32) (μ : gm_M) : Option (Option Value × gm_M) := if a1 ≠ (-1 : Int32) then if gm_tag μ a0 = 16 then gm_bI (f_X11_isNobody a0 a1 μ) (fun x2 m1 => if x2 = 0 then gm_bI (f_X11_isOutside a2 (0 : Int32) (999 : Int32) m1) (fun x4 m3 => if x4 = 0 then gm_gR m3 [16] a0 1 (fun v5 => gm_gR m3 [13] v5 9 (fun v6 => if gm_tag m3 v6 = 12 then gm_bI (f_X7_isFull v6 m3) (fun x8 m7 => if x8 = 0 then gm_gR m7 [16] a0 1 (fun v9 => gm_gR m7 [13] v9 9 (fun v10 => if gm_tag m7 v10 = 12 then gm_bI (f_X7_add v10 a1 a2 (0 : Int32) m7) (fun x12 m11 => some (some (.int x12), m11)) else none)) else some (some (.int (-4 : Int32)), m7)) else none)) else some (some (.int (-2 : Int32)), m3)) else some (some (.int (-1 : Int32)), m1)) else none else gm_gR μ [16] a0 1 (fun v13 => gm_gR μ [13] v13 9 (fun v14 => if gm_tag μ v14 = 12 then gm_bI (f_X7_clear v14 μ) (fun x16 m15 => some (some (.int x16), m15)) else none))
set_option maxHeartbeats 4000000 in
theorem c_X11_book (a0 : Nat) (a1 : Int32) (a2 : Int32) (μ : gm_M) : gm_Call ({ cls := "GumBubble", name := "book", desc := "(II)I" } : Jvm.MethodName) prog_1_method_31_code 3 (some .int) 2 0 0 [.ref a0, .int a1, .int a2] μ (f_X11_book a0 a1 a2 μ) := by
  refine gm_start PN_11 (Nat.le_of_ble_eq_true rfl) (fun res μe => ?_)
  unfold f_X11_book
  show gm_A "GumBubble" (gm_nm "book") _ _ _ _ _ _ _ _ _ 0 [(0, .ref a0), (1, .int a1), (2, .int a2)] [] _ _
  refine gm_iload_n d_X11_book_0 rfl 1 rfl ?_
  refine gm_iconst (v := -1) d_X11_book_1 (by decide) ?_
  refine gm_icmp_ne (tgt := 16) d_X11_book_2 (by decide) (fun h2 => ?_) (fun h2 => ?_)
  ·
    refine gm_aload_n d_X11_book_16 rfl 0 rfl ?_
    refine gm_iload_n d_X11_book_17 rfl 1 rfl ?_
    refine gm_grd (fun g18 => ?_)
    refine gm_callV (k0 := 11) [.int a1] (c_X11_isNobody a0 a1 μ) g18 rfl B_X11_isNobody gw_478 gs_11 rfl rfl rfl d_X11_book_18 (gm_kI (fun x2 m1 => ?_))
    refine gm_if_eq (tgt := 26) d_X11_book_21 (by decide) (fun h21 => ?_) (fun h21 => ?_)
    ·
      refine gm_iload_n d_X11_book_26 rfl 2 rfl ?_
      refine gm_iconst (v := 0) d_X11_book_27 (by decide) ?_
      refine gm_sipush (v := 999) d_X11_book_28 (by decide) ?_
      refine gm_callS [.int a2, .int (0 : Int32), .int (999 : Int32)] (c_X11_isOutside a2 (0 : Int32) (999 : Int32) m1) B_X11_isOutside gw_296 rfl rfl rfl d_X11_book_31 (gm_kI (fun x4 m3 => ?_))
      refine gm_if_eq (tgt := 40) d_X11_book_34 (by decide) (fun h34 => ?_) (fun h34 => ?_)
      ·
        refine gm_aload_n d_X11_book_40 rfl 0 rfl ?_
        refine gm_getR F_11_now gw_262 d_X11_book_41 (fun v5 _ => ?_)
        refine gm_getR F_8_book gw_237 d_X11_book_44 (fun v6 _ => ?_)
        refine gm_grd (fun g47 => ?_)
        refine gm_callV (k0 := 7) [] (c_X7_isFull v6 m3) g47 rfl B_X7_isFull gw_714 gw_716 rfl rfl rfl d_X11_book_47 (gm_kI (fun x8 m7 => ?_))
        refine gm_if_eq (tgt := 56) d_X11_book_50 (by decide) (fun h50 => ?_) (fun h50 => ?_)
        ·
          refine gm_aload_n d_X11_book_56 rfl 0 rfl ?_
          refine gm_getR F_11_now gw_262 d_X11_book_57 (fun v9 _ => ?_)
          refine gm_getR F_8_book gw_237 d_X11_book_60 (fun v10 _ => ?_)
          refine gm_iload_n d_X11_book_63 rfl 1 rfl ?_
          refine gm_iload_n d_X11_book_64 rfl 2 rfl ?_
          refine gm_iconst (v := 0) d_X11_book_65 (by decide) ?_
          refine gm_grd (fun g66 => ?_)
          refine gm_callV (k0 := 7) [.int a1, .int a2, .int (0 : Int32)] (c_X7_add v10 a1 a2 (0 : Int32) m7) g66 rfl B_X7_add gw_718 gw_720 rfl rfl rfl d_X11_book_66 (gm_kI (fun x12 m11 => ?_))
          exact gm_iret rfl d_X11_book_69 (Nat.le_of_ble_eq_true rfl) (Nat.le_of_ble_eq_true rfl) (fun h => h)
        ·
          refine gm_bipush (v := -4) d_X11_book_53 (by decide) ?_
          exact gm_iret rfl d_X11_book_55 (Nat.le_of_ble_eq_true rfl) (Nat.le_of_ble_eq_true rfl) (fun h => h)
      ·
        refine gm_bipush (v := -2) d_X11_book_37 (by decide) ?_
        exact gm_iret rfl d_X11_book_39 (Nat.le_of_ble_eq_true rfl) (Nat.le_of_ble_eq_true rfl) (fun h => h)
    ·
      refine gm_iconst (v := -1) d_X11_book_24 (by decide) ?_
      exact gm_iret rfl d_X11_book_25 (Nat.le_of_ble_eq_true rfl) (Nat.le_of_ble_eq_true rfl) (fun h => h)
  ·
    refine gm_aload_n d_X11_book_5 rfl 0 rfl ?_
    refine gm_getR F_11_now gw_262 d_X11_book_6 (fun v13 _ => ?_)
    refine gm_getR F_8_book gw_237 d_X11_book_9 (fun v14 _ => ?_)
    refine gm_grd (fun g12 => ?_)
    refine gm_callV (k0 := 7) [] (c_X7_clear v14 μ) g12 rfl B_X7_clear gw_710 gw_712 rfl rfl rfl d_X11_book_12 (gm_kI (fun x16 m15 => ?_))
    exact gm_iret rfl d_X11_book_15 (Nat.le_of_ble_eq_true rfl) (Nat.le_of_ble_eq_true rfl) (fun h => h)
theorem d_X11_breaths_0 : decode prog_1_method_15_code 0 = .ok (.aload_n 0, 1) := ge_aload_n_0 (by decide +kernel)
theorem d_X11_breaths_1 : decode prog_1_method_15_code 1 = .ok (.iload_n 1, 1) := ge_iload_n_1 (by decide +kernel)
theorem d_X11_breaths_2 : decode prog_1_method_15_code 2 = .ok (.invokevirtual 115, 3) := ge_invokevirtual (by decide +kernel)
theorem d_X11_breaths_5 : decode prog_1_method_15_code 5 = .ok (.ifCond .eq 5, 3) := ge_ifCond_eq (by decide +kernel)
theorem d_X11_breaths_8 : decode prog_1_method_15_code 8 = .ok (.iconst (-1), 1) := ge_iconst_m1_ (by decide +kernel)
theorem d_X11_breaths_9 : decode prog_1_method_15_code 9 = .ok (.ireturn, 1) := ge_ireturn (by decide +kernel)
theorem d_X11_breaths_10 : decode prog_1_method_15_code 10 = .ok (.iload_n 2, 1) := ge_iload_n_2 (by decide +kernel)
theorem d_X11_breaths_11 : decode prog_1_method_15_code 11 = .ok (.iconst 1, 1) := ge_iconst_1 (by decide +kernel)
theorem d_X11_breaths_12 : decode prog_1_method_15_code 12 = .ok (.bipush 99, 2) := ge_bipush (by decide +kernel)
theorem d_X11_breaths_14 : decode prog_1_method_15_code 14 = .ok (.invokestatic 76, 3) := ge_invokestatic (by decide +kernel)
theorem d_X11_breaths_17 : decode prog_1_method_15_code 17 = .ok (.ifCond .eq 6, 3) := ge_ifCond_eq (by decide +kernel)
theorem d_X11_breaths_20 : decode prog_1_method_15_code 20 = .ok (.bipush (-2), 2) := ge_bipush (by decide +kernel)
theorem d_X11_breaths_22 : decode prog_1_method_15_code 22 = .ok (.ireturn, 1) := ge_ireturn (by decide +kernel)
theorem d_X11_breaths_23 : decode prog_1_method_15_code 23 = .ok (.iconst 0, 1) := ge_iconst_0 (by decide +kernel)
theorem d_X11_breaths_24 : decode prog_1_method_15_code 24 = .ok (.aload_n 0, 1) := ge_aload_n_0 (by decide +kernel)
theorem d_X11_breaths_25 : decode prog_1_method_15_code 25 = .ok (.iload_n 1, 1) := ge_iload_n_1 (by decide +kernel)
theorem d_X11_breaths_26 : decode prog_1_method_15_code 26 = .ok (.invokevirtual 158, 3) := ge_invokevirtual (by decide +kernel)
theorem d_X11_breaths_29 : decode prog_1_method_15_code 29 = .ok (.aload_n 0, 1) := ge_aload_n_0 (by decide +kernel)
theorem d_X11_breaths_30 : decode prog_1_method_15_code 30 = .ok (.getfield 60, 3) := ge_getfield (by decide +kernel)
theorem d_X11_breaths_33 : decode prog_1_method_15_code 33 = .ok (.getfield 104, 3) := ge_getfield (by decide +kernel)
theorem d_X11_breaths_36 : decode prog_1_method_15_code 36 = .ok (.iload_n 1, 1) := ge_iload_n_1 (by decide +kernel)
theorem d_X11_breaths_37 : decode prog_1_method_15_code 37 = .ok (.aaload, 1) := ge_aaload (by decide +kernel)
theorem d_X11_breaths_38 : decode prog_1_method_15_code 38 = .ok (.getfield 138, 3) := ge_getfield (by decide +kernel)
theorem d_X11_breaths_41 : decode prog_1_method_15_code 41 = .ok (.isub, 1) := ge_isub (by decide +kernel)
theorem d_X11_breaths_42 : decode prog_1_method_15_code 42 = .ok (.invokestatic 197, 3) := ge_invokestatic (by decide +kernel)
theorem d_X11_breaths_45 : decode prog_1_method_15_code 45 = .ok (.iload_n 2, 1) := ge_iload_n_2 (by decide +kernel)
theorem d_X11_breaths_46 : decode prog_1_method_15_code 46 = .ok (.idiv, 1) := ge_idiv (by decide +kernel)
theorem d_X11_breaths_47 : decode prog_1_method_15_code 47 = .ok (.ireturn, 1) := ge_ireturn (by decide +kernel)
def f_X11_breaths (a0 : Nat) (a1 : Int32) (a2 : Int32) (μ : gm_M) : Option (Option Value × gm_M) := if gm_tag μ a0 = 16 then gm_bI (f_X11_isNobody a0 a1 μ) (fun x2 m1 => if x2 = 0 then gm_bI (f_X11_isOutside a2 (1 : Int32) (99 : Int32) m1) (fun x4 m3 => if x4 = 0 then if gm_tag m3 a0 = 16 then gm_bI (f_X11_holdsNow a0 a1 m3) (fun x6 m5 => gm_gR m5 [16] a0 1 (fun v7 => gm_gR m5 [13] v7 2 (fun v8 => gm_aR m5 4 v8 a1 (fun v9 => gm_gI m5 [7] v9 6 (fun v10 => if a2 = 0 then none else some (some (.int ((if (0 : Int32) < (x6 - v10) then (x6 - v10) else (0 : Int32)) / a2)), m5)))))) else none else some (some (.int (-2 : Int32)), m3)) else some (some (.int (-1 : Int32)), m1)) else none
set_option maxHeartbeats 4000000 in
theorem c_X11_breaths (a0 : Nat) (a1 : Int32) (a2 : Int32) (μ : gm_M) : gm_Call ({ cls := "GumBubble", name := "breaths", desc := "(II)I" } : Jvm.MethodName) prog_1_method_15_code 3 (some .int) 5 0 0 [.ref a0, .int a1, .int a2] μ (f_X11_breaths a0 a1 a2 μ) := by
  refine gm_start PN_11 (Nat.le_of_ble_eq_true rfl) (fun res μe => ?_)
  unfold f_X11_breaths
  show gm_A "GumBubble" (gm_nm "breaths") _ _ _ _ _ _ _ _ _ 0 [(0, .ref a0), (1, .int a1), (2, .int a2)] [] _ _
  refine gm_aload_n d_X11_breaths_0 rfl 0 rfl ?_
  refine gm_iload_n d_X11_breaths_1 rfl 1 rfl ?_
  refine gm_grd (fun g2 => ?_)
  refine gm_callV (k0 := 11) [.int a1] (c_X11_isNobody a0 a1 μ) g2 rfl B_X11_isNobody gw_478 gs_11 rfl rfl rfl d_X11_breaths_2 (gm_kI (fun x2 m1 => ?_))
  refine gm_if_eq (tgt := 10) d_X11_breaths_5 (by decide) (fun h5 => ?_) (fun h5 => ?_)
  ·
    refine gm_iload_n d_X11_breaths_10 rfl 2 rfl ?_
    refine gm_iconst (v := 1) d_X11_breaths_11 (by decide) ?_
    refine gm_bipush (v := 99) d_X11_breaths_12 (by decide) ?_
    refine gm_callS [.int a2, .int (1 : Int32), .int (99 : Int32)] (c_X11_isOutside a2 (1 : Int32) (99 : Int32) m1) B_X11_isOutside gw_296 rfl rfl rfl d_X11_breaths_14 (gm_kI (fun x4 m3 => ?_))
    refine gm_if_eq (tgt := 23) d_X11_breaths_17 (by decide) (fun h17 => ?_) (fun h17 => ?_)
    ·
      refine gm_iconst (v := 0) d_X11_breaths_23 (by decide) ?_
      refine gm_aload_n d_X11_breaths_24 rfl 0 rfl ?_
      refine gm_iload_n d_X11_breaths_25 rfl 1 rfl ?_
      refine gm_grd (fun g26 => ?_)
      refine gm_callV (k0 := 11) [.int a1] (c_X11_holdsNow a0 a1 m3) g26 rfl B_X11_holdsNow gw_541 gs_13 rfl rfl rfl d_X11_breaths_26 (gm_kI (fun x6 m5 => ?_))
      refine gm_aload_n d_X11_breaths_29 rfl 0 rfl ?_
      refine gm_getR F_11_now gw_262 d_X11_breaths_30 (fun v7 _ => ?_)
      refine gm_getR F_8_children gw_223 d_X11_breaths_33 (fun v8 _ => ?_)
      refine gm_iload_n d_X11_breaths_36 rfl 1 rfl ?_
      refine gm_aald (Or.inr rfl) d_X11_breaths_37 (fun v9 _ => ?_)
      refine gm_getI F_2_bubble gw_193 d_X11_breaths_38 (fun v10 _ => ?_)
      refine gm_isub d_X11_breaths_41 ?_
      refine gm_max gw_643 gw_38 gw_3 (show _ from gw_39) (Nat.le_of_ble_eq_true rfl) (Nat.le_of_ble_eq_true rfl) (Nat.le_of_ble_eq_true rfl) (Nat.le_of_ble_eq_true rfl) rfl d_X11_breaths_42 ?_
      refine gm_iload_n d_X11_breaths_45 rfl 2 rfl ?_
      refine gm_idiv d_X11_breaths_46 ?_
      exact gm_iret rfl d_X11_breaths_47 (Nat.le_of_ble_eq_true rfl) (Nat.le_of_ble_eq_true rfl) (fun h => h)
    ·
      refine gm_bipush (v := -2) d_X11_breaths_20 (by decide) ?_
      exact gm_iret rfl d_X11_breaths_22 (Nat.le_of_ble_eq_true rfl) (Nat.le_of_ble_eq_true rfl) (fun h => h)
  ·
    refine gm_iconst (v := -1) d_X11_breaths_8 (by decide) ?_
    exact gm_iret rfl d_X11_breaths_9 (Nat.le_of_ble_eq_true rfl) (Nat.le_of_ble_eq_true rfl) (fun h => h)
theorem d_X11_bubbleBits_0 : decode prog_1_method_41_code 0 = .ok (.iconst 0, 1) := ge_iconst_0 (by decide +kernel)
theorem d_X11_bubbleBits_1 : decode prog_1_method_41_code 1 = .ok (.istore_n 1, 1) := ge_istore_n_1 (by decide +kernel)
theorem d_X11_bubbleBits_2 : decode prog_1_method_41_code 2 = .ok (.iconst 0, 1) := ge_iconst_0 (by decide +kernel)
theorem d_X11_bubbleBits_3 : decode prog_1_method_41_code 3 = .ok (.istore_n 2, 1) := ge_istore_n_2 (by decide +kernel)
theorem d_X11_bubbleBits_4 : decode prog_1_method_41_code 4 = .ok (.iload_n 2, 1) := ge_iload_n_2 (by decide +kernel)
theorem d_X11_bubbleBits_5 : decode prog_1_method_41_code 5 = .ok (.aload_n 0, 1) := ge_aload_n_0 (by decide +kernel)
theorem d_X11_bubbleBits_6 : decode prog_1_method_41_code 6 = .ok (.getfield 60, 3) := ge_getfield (by decide +kernel)
theorem d_X11_bubbleBits_9 : decode prog_1_method_41_code 9 = .ok (.getfield 101, 3) := ge_getfield (by decide +kernel)
theorem d_X11_bubbleBits_12 : decode prog_1_method_41_code 12 = .ok (.if_icmp .ge 30, 3) := ge_if_icmp_ge (by decide +kernel)
theorem d_X11_bubbleBits_15 : decode prog_1_method_41_code 15 = .ok (.aload_n 0, 1) := ge_aload_n_0 (by decide +kernel)
theorem d_X11_bubbleBits_16 : decode prog_1_method_41_code 16 = .ok (.getfield 60, 3) := ge_getfield (by decide +kernel)
theorem d_X11_bubbleBits_19 : decode prog_1_method_41_code 19 = .ok (.getfield 104, 3) := ge_getfield (by decide +kernel)
theorem d_X11_bubbleBits_22 : decode prog_1_method_41_code 22 = .ok (.iload_n 2, 1) := ge_iload_n_2 (by decide +kernel)
theorem d_X11_bubbleBits_23 : decode prog_1_method_41_code 23 = .ok (.aaload, 1) := ge_aaload (by decide +kernel)
theorem d_X11_bubbleBits_24 : decode prog_1_method_41_code 24 = .ok (.getfield 138, 3) := ge_getfield (by decide +kernel)
theorem d_X11_bubbleBits_27 : decode prog_1_method_41_code 27 = .ok (.ifCond .le 9, 3) := ge_ifCond_le (by decide +kernel)
theorem d_X11_bubbleBits_30 : decode prog_1_method_41_code 30 = .ok (.iload_n 1, 1) := ge_iload_n_1 (by decide +kernel)
theorem d_X11_bubbleBits_31 : decode prog_1_method_41_code 31 = .ok (.iconst 1, 1) := ge_iconst_1 (by decide +kernel)
theorem d_X11_bubbleBits_32 : decode prog_1_method_41_code 32 = .ok (.iload_n 2, 1) := ge_iload_n_2 (by decide +kernel)
theorem d_X11_bubbleBits_33 : decode prog_1_method_41_code 33 = .ok (.ishl, 1) := ge_ishl (by decide +kernel)
theorem d_X11_bubbleBits_34 : decode prog_1_method_41_code 34 = .ok (.ior, 1) := ge_ior (by decide +kernel)
theorem d_X11_bubbleBits_35 : decode prog_1_method_41_code 35 = .ok (.istore_n 1, 1) := ge_istore_n_1 (by decide +kernel)
theorem d_X11_bubbleBits_36 : decode prog_1_method_41_code 36 = .ok (.iinc 2 1, 3) := ge_iinc (by decide +kernel)
theorem d_X11_bubbleBits_39 : decode prog_1_method_41_code 39 = .ok (.goto (-35), 3) := ge_goto (by decide +kernel)
theorem d_X11_bubbleBits_42 : decode prog_1_method_41_code 42 = .ok (.iload_n 1, 1) := ge_iload_n_1 (by decide +kernel)
theorem d_X11_bubbleBits_43 : decode prog_1_method_41_code 43 = .ok (.ireturn, 1) := ge_ireturn (by decide +kernel)
def f_X11_bubbleBits (a0 : Nat) (μ : gm_M) : Option (Option Value × gm_M) := gm_loop (fun (s1 : Int32 × Int32) => gm_gR μ [16] a0 1 (fun v2 => gm_gI μ [13] v2 1 (fun v3 => if v3 ≤ s1.2 then some (Sum.inr (some (.int s1.1), μ)) else gm_gR μ [16] a0 1 (fun v4 => gm_gR μ [13] v4 2 (fun v5 => gm_aR μ 4 v5 s1.2 (fun v6 => gm_gI μ [7] v6 6 (fun v7 => gm_j (fun (s8 : Int32) => some (Sum.inl (s8, (s1.2 + (1 : Int32))))) (fun j9 => if v7 ≤ 0 then j9 s1.1 else j9 (s1.1 ||| ((1 : Int32) <<< (s1.2 &&& 31))))))))))) 5000 ((0 : Int32), (0 : Int32))
set_option maxHeartbeats 4000000 in
theorem c_X11_bubbleBits (a0 : Nat) (μ : gm_M) : gm_Call ({ cls := "GumBubble", name := "bubbleBits", desc := "()I" } : Jvm.MethodName) prog_1_method_41_code 3 (some .int) 0 0 0 [.ref a0] μ (f_X11_bubbleBits a0 μ) := by
  refine gm_start PN_11 (Nat.le_of_ble_eq_true rfl) (fun res μe => ?_)
  unfold f_X11_bubbleBits
  show gm_A "GumBubble" (gm_nm "bubbleBits") _ _ _ _ _ _ _ _ _ 0 [(0, .ref a0)] [] _ _
  refine gm_iconst (v := 0) d_X11_bubbleBits_0 (by decide) ?_
  refine gm_istore_n (L' := [(1, .int (0 : Int32)), (0, .ref a0)]) d_X11_bubbleBits_1 rfl (Nat.le_of_ble_eq_true rfl) rfl ?_
  refine gm_iconst (v := 0) d_X11_bubbleBits_2 (by decide) ?_
  refine gm_istore_n (L' := [(2, .int (0 : Int32)), (1, .int (0 : Int32)), (0, .ref a0)]) d_X11_bubbleBits_3 rfl (Nat.le_of_ble_eq_true rfl) rfl ?_
  refine gm_sub (L' := [(0, .ref a0), (1, .int (0 : Int32)), (2, .int (0 : Int32))]) [2, 1, 0] rfl ?_
  refine gm_lp (S := Int32 × Int32) (fun _ => 0) (fun _ => 0) (fun s1 => μ) (fun s1 => [(0, .ref a0), (1, .int s1.1), (2, .int s1.2)]) (fun _ => []) (fun s1 => ?_) 5000 ((0 : Int32), (0 : Int32))
  refine gm_iload_n d_X11_bubbleBits_4 rfl 2 rfl ?_
  refine gm_aload_n d_X11_bubbleBits_5 rfl 0 rfl ?_
  refine gm_getR F_11_now gw_262 d_X11_bubbleBits_6 (fun v2 _ => ?_)
  refine gm_getI F_8_size gw_221 d_X11_bubbleBits_9 (fun v3 _ => ?_)
  refine gm_icmp_ge (tgt := 42) d_X11_bubbleBits_12 (by decide) (fun h12 => ?_) (fun h12 => ?_)
  ·
    refine gm_iload_n d_X11_bubbleBits_42 rfl 1 rfl ?_
    exact gm_iret rfl d_X11_bubbleBits_43 (Nat.le_of_ble_eq_true rfl) (Nat.le_of_ble_eq_true rfl) (fun h => h)
  ·
    refine gm_aload_n d_X11_bubbleBits_15 rfl 0 rfl ?_
    refine gm_getR F_11_now gw_262 d_X11_bubbleBits_16 (fun v4 _ => ?_)
    refine gm_getR F_8_children gw_223 d_X11_bubbleBits_19 (fun v5 _ => ?_)
    refine gm_iload_n d_X11_bubbleBits_22 rfl 2 rfl ?_
    refine gm_aald (Or.inr rfl) d_X11_bubbleBits_23 (fun v6 _ => ?_)
    refine gm_getI F_2_bubble gw_193 d_X11_bubbleBits_24 (fun v7 _ => ?_)
    refine gm_join (S := Int32) (pj := 36) (kj := 0) (nj := 0) (fun s8 => μ) (fun s8 => [(0, .ref a0), (1, .int s8), (2, .int s1.2)]) (fun s8 => []) (fun s8 => ?_) (fun j9 hj9 => ?_)
    ·
      refine gm_iinc (v := s1.2 + (1 : Int32)) (L' := [(2, .int (s1.2 + (1 : Int32))), (0, .ref a0), (1, .int s8)]) d_X11_bubbleBits_36 2 rfl rfl (Nat.le_of_ble_eq_true rfl) rfl ?_
      refine gm_goto (tgt := 4) d_X11_bubbleBits_39 (by decide) ?_
      refine gm_sub (L' := [(0, .ref a0), (1, .int s8), (2, .int (s1.2 + (1 : Int32)))]) [1, 2, 0] rfl ?_
      exact gm_back (fun h => h)
    ·
      refine gm_if_le (tgt := 36) d_X11_bubbleBits_27 (by decide) (fun h27 => ?_) (fun h27 => ?_)
      ·
        exact hj9 s1.1
      ·
        refine gm_iload_n d_X11_bubbleBits_30 rfl 1 rfl ?_
        refine gm_iconst (v := 1) d_X11_bubbleBits_31 (by decide) ?_
        refine gm_iload_n d_X11_bubbleBits_32 rfl 2 rfl ?_
        refine gm_ishl d_X11_bubbleBits_33 ?_
        refine gm_ior d_X11_bubbleBits_34 ?_
        refine gm_istore_n (L' := [(1, .int (s1.1 ||| ((1 : Int32) <<< (s1.2 &&& 31)))), (0, .ref a0), (2, .int s1.2)]) d_X11_bubbleBits_35 rfl (Nat.le_of_ble_eq_true rfl) rfl ?_
        refine gm_sub (L' := [(0, .ref a0), (1, .int (s1.1 ||| ((1 : Int32) <<< (s1.2 &&& 31)))), (2, .int s1.2)]) [1, 0, 2] rfl ?_
        exact hj9 (s1.1 ||| ((1 : Int32) <<< (s1.2 &&& 31)))
theorem d_X2_begin_0 : decode prog_4_method_2_code 0 = .ok (.aload_n 0, 1) := ge_aload_n_0 (by decide +kernel)
theorem d_X2_begin_1 : decode prog_4_method_2_code 1 = .ok (.aload_n 1, 1) := ge_aload_n_1 (by decide +kernel)
theorem d_X2_begin_2 : decode prog_4_method_2_code 2 = .ok (.putfield 19, 3) := ge_putfield (by decide +kernel)
theorem d_X2_begin_5 : decode prog_4_method_2_code 5 = .ok (.aload_n 0, 1) := ge_aload_n_0 (by decide +kernel)
theorem d_X2_begin_6 : decode prog_4_method_2_code 6 = .ok (.iload_n 2, 1) := ge_iload_n_2 (by decide +kernel)
theorem d_X2_begin_7 : decode prog_4_method_2_code 7 = .ok (.putfield 23, 3) := ge_putfield (by decide +kernel)
theorem d_X2_begin_10 : decode prog_4_method_2_code 10 = .ok (.aload_n 0, 1) := ge_aload_n_0 (by decide +kernel)
theorem d_X2_begin_11 : decode prog_4_method_2_code 11 = .ok (.iconst 1, 1) := ge_iconst_1 (by decide +kernel)
theorem d_X2_begin_12 : decode prog_4_method_2_code 12 = .ok (.putfield 26, 3) := ge_putfield (by decide +kernel)
theorem d_X2_begin_15 : decode prog_4_method_2_code 15 = .ok (.aload_n 0, 1) := ge_aload_n_0 (by decide +kernel)
theorem d_X2_begin_16 : decode prog_4_method_2_code 16 = .ok (.iload_n 3, 1) := ge_iload_n_3 (by decide +kernel)
theorem d_X2_begin_17 : decode prog_4_method_2_code 17 = .ok (.putfield 29, 3) := ge_putfield (by decide +kernel)
theorem d_X2_begin_20 : decode prog_4_method_2_code 20 = .ok (.aload_n 0, 1) := ge_aload_n_0 (by decide +kernel)
theorem d_X2_begin_21 : decode prog_4_method_2_code 21 = .ok (.iconst 0, 1) := ge_iconst_0 (by decide +kernel)
theorem d_X2_begin_22 : decode prog_4_method_2_code 22 = .ok (.putfield 32, 3) := ge_putfield (by decide +kernel)
theorem d_X2_begin_25 : decode prog_4_method_2_code 25 = .ok (.aload_n 0, 1) := ge_aload_n_0 (by decide +kernel)
theorem d_X2_begin_26 : decode prog_4_method_2_code 26 = .ok (.iconst 0, 1) := ge_iconst_0 (by decide +kernel)
theorem d_X2_begin_27 : decode prog_4_method_2_code 27 = .ok (.putfield 35, 3) := ge_putfield (by decide +kernel)
theorem d_X2_begin_30 : decode prog_4_method_2_code 30 = .ok (.aload_n 0, 1) := ge_aload_n_0 (by decide +kernel)
theorem d_X2_begin_31 : decode prog_4_method_2_code 31 = .ok (.iconst 0, 1) := ge_iconst_0 (by decide +kernel)
theorem d_X2_begin_32 : decode prog_4_method_2_code 32 = .ok (.putfield 38, 3) := ge_putfield (by decide +kernel)
theorem d_X2_begin_35 : decode prog_4_method_2_code 35 = .ok (.iconst 0, 1) := ge_iconst_0 (by decide +kernel)
theorem d_X2_begin_36 : decode prog_4_method_2_code 36 = .ok (.istore 4, 2) := ge_istore (by decide +kernel)
theorem d_X2_begin_38 : decode prog_4_method_2_code 38 = .ok (.iload 4, 2) := ge_iload (by decide +kernel)
theorem d_X2_begin_40 : decode prog_4_method_2_code 40 = .ok (.aload_n 0, 1) := ge_aload_n_0 (by decide +kernel)
theorem d_X2_begin_41 : decode prog_4_method_2_code 41 = .ok (.getfield 9, 3) := ge_getfield (by decide +kernel)
theorem d_X2_begin_44 : decode prog_4_method_2_code 44 = .ok (.arraylength, 1) := ge_arraylength (by decide +kernel)
theorem d_X2_begin_45 : decode prog_4_method_2_code 45 = .ok (.if_icmp .ge 17, 3) := ge_if_icmp_ge (by decide +kernel)
theorem d_X2_begin_48 : decode prog_4_method_2_code 48 = .ok (.aload_n 0, 1) := ge_aload_n_0 (by decide +kernel)
theorem d_X2_begin_49 : decode prog_4_method_2_code 49 = .ok (.getfield 9, 3) := ge_getfield (by decide +kernel)
theorem d_X2_begin_52 : decode prog_4_method_2_code 52 = .ok (.iload 4, 2) := ge_iload (by decide +kernel)
theorem d_X2_begin_54 : decode prog_4_method_2_code 54 = .ok (.iconst 0, 1) := ge_iconst_0 (by decide +kernel)
theorem d_X2_begin_55 : decode prog_4_method_2_code 55 = .ok (.iastore, 1) := ge_iastore (by decide +kernel)
theorem d_X2_begin_56 : decode prog_4_method_2_code 56 = .ok (.iinc 4 1, 3) := ge_iinc (by decide +kernel)
theorem d_X2_begin_59 : decode prog_4_method_2_code 59 = .ok (.goto (-21), 3) := ge_goto (by decide +kernel)
theorem d_X2_begin_62 : decode prog_4_method_2_code 62 = .ok (.return_, 1) := ge_return_ (by decide +kernel)
def f_X2_begin (a0 : Nat) (a1 : Nat) (a2 : Int32) (a3 : Int32) (μ : gm_M) : Option (Option Value × gm_M) := gm_pR μ [7] a0 1 a1 (fun m1 => gm_pI m1 [7] a0 2 a2 (fun m2 => gm_pI m2 [7] a0 3 (1 : Int32) (fun m3 => gm_pI m3 [7] a0 4 a3 (fun m4 => gm_pI m4 [7] a0 5 (0 : Int32) (fun m5 => gm_pI m5 [7] a0 6 (0 : Int32) (fun m6 => gm_pI m6 [7] a0 7 (0 : Int32) (fun m7 => gm_loop (fun (s8 : Int32 × gm_M) => gm_gR s8.2 [7] a0 8 (fun v9 => gm_al s8.2 1 v9 (fun v10 => if v10 ≤ s8.1 then some (Sum.inr (none, s8.2)) else gm_gR s8.2 [7] a0 8 (fun v11 => gm_sI s8.2 v11 s8.1 (0 : Int32) (fun m12 => some (Sum.inl ((s8.1 + (1 : Int32)), m12))))))) 5000 ((0 : Int32), m7))))))))
set_option maxHeartbeats 4000000 in
theorem c_X2_begin (a0 : Nat) (a1 : Nat) (a2 : Int32) (a3 : Int32) (μ : gm_M) : gm_Call ({ cls := "GumBubble$Child", name := "begin", desc := "(LGumBubble$Plain;II)V" } : Jvm.MethodName) prog_4_method_2_code 5 none 0 0 0 [.ref a0, .ref a1, .int a2, .int a3] μ (f_X2_begin a0 a1 a2 a3 μ) := by
  refine gm_start PN_2 (Nat.le_of_ble_eq_true rfl) (fun res μe => ?_)
  unfold f_X2_begin
  show gm_A "GumBubble$Child" (gm_nm "begin") _ _ _ _ _ _ _ _ _ 0 [(0, .ref a0), (1, .ref a1), (2, .int a2), (3, .int a3)] [] _ _
  refine gm_aload_n d_X2_begin_0 rfl 0 rfl ?_
  refine gm_aload_n d_X2_begin_1 rfl 1 rfl ?_
  refine gm_putR F_2_kind (Or.inl rfl) gw_171 d_X2_begin_2 (fun m1 _ => ?_)
  refine gm_aload_n d_X2_begin_5 rfl 0 rfl ?_
  refine gm_iload_n d_X2_begin_6 rfl 2 rfl ?_
  refine gm_putI F_2_v (Or.inl rfl) gw_175 d_X2_begin_7 (fun m2 _ => ?_)
  refine gm_aload_n d_X2_begin_10 rfl 0 rfl ?_
  refine gm_iconst (v := 1) d_X2_begin_11 (by decide) ?_
  refine gm_putI F_2_pieces (Or.inl rfl) gw_180 d_X2_begin_12 (fun m3 _ => ?_)
  refine gm_aload_n d_X2_begin_15 rfl 0 rfl ?_
  refine gm_iload_n d_X2_begin_16 rfl 3 rfl ?_
  refine gm_putI F_2_sugar (Or.inl rfl) gw_187 d_X2_begin_17 (fun m4 _ => ?_)
  refine gm_aload_n d_X2_begin_20 rfl 0 rfl ?_
  refine gm_iconst (v := 0) d_X2_begin_21 (by decide) ?_
  refine gm_putI F_2_jaw (Or.inl rfl) gw_190 d_X2_begin_22 (fun m5 _ => ?_)
  refine gm_aload_n d_X2_begin_25 rfl 0 rfl ?_
  refine gm_iconst (v := 0) d_X2_begin_26 (by decide) ?_
  refine gm_putI F_2_bubble (Or.inl rfl) gw_192 d_X2_begin_27 (fun m6 _ => ?_)
  refine gm_aload_n d_X2_begin_30 rfl 0 rfl ?_
  refine gm_iconst (v := 0) d_X2_begin_31 (by decide) ?_
  refine gm_putI F_2_hair (Or.inl rfl) gw_194 d_X2_begin_32 (fun m7 _ => ?_)
  refine gm_iconst (v := 0) d_X2_begin_35 (by decide) ?_
  refine gm_istore (L' := [(4, .int (0 : Int32)), (0, .ref a0), (1, .ref a1), (2, .int a2), (3, .int a3)]) d_X2_begin_36 (Nat.le_of_ble_eq_true rfl) rfl ?_
  refine gm_sub (L' := [(0, .ref a0), (1, .ref a1), (2, .int a2), (3, .int a3), (4, .int (0 : Int32))]) [1, 2, 3, 4, 0] rfl ?_
  refine gm_lp (S := Int32 × gm_M) (fun _ => 0) (fun _ => 0) (fun s8 => s8.2) (fun s8 => [(0, .ref a0), (1, .ref a1), (2, .int a2), (3, .int a3), (4, .int s8.1)]) (fun _ => []) (fun s8 => ?_) 5000 ((0 : Int32), m7)
  refine gm_iload d_X2_begin_38 4 rfl ?_
  refine gm_aload_n d_X2_begin_40 rfl 0 rfl ?_
  refine gm_getR F_2_row gw_196 d_X2_begin_41 (fun v9 _ => ?_)
  refine gm_alen (Or.inl rfl) d_X2_begin_44 (fun v10 _ => ?_)
  refine gm_icmp_ge (tgt := 62) d_X2_begin_45 (by decide) (fun h45 => ?_) (fun h45 => ?_)
  ·
    exact gm_vret rfl d_X2_begin_62 (Nat.le_of_ble_eq_true rfl) (Nat.le_of_ble_eq_true rfl) (fun h => h)
  ·
    refine gm_aload_n d_X2_begin_48 rfl 0 rfl ?_
    refine gm_getR F_2_row gw_196 d_X2_begin_49 (fun v11 _ => ?_)
    refine gm_iload d_X2_begin_52 4 rfl ?_
    refine gm_iconst (v := 0) d_X2_begin_54 (by decide) ?_
    refine gm_iast d_X2_begin_55 (fun m12 _ => ?_)
    refine gm_iinc (v := s8.1 + (1 : Int32)) (L' := [(4, .int (s8.1 + (1 : Int32))), (0, .ref a0), (1, .ref a1), (2, .int a2), (3, .int a3)]) d_X2_begin_56 4 rfl rfl (Nat.le_of_ble_eq_true rfl) rfl ?_
    refine gm_goto (tgt := 38) d_X2_begin_59 (by decide) ?_
    refine gm_sub (L' := [(0, .ref a0), (1, .ref a1), (2, .int a2), (3, .int a3), (4, .int (s8.1 + (1 : Int32)))]) [1, 2, 3, 4, 0] rfl ?_
    exact gm_back (fun h => h)
theorem d_X11_child_0 : decode prog_1_method_4_code 0 = .ok (.iload_n 1, 1) := ge_iload_n_1 (by decide +kernel)
theorem d_X11_child_1 : decode prog_1_method_4_code 1 = .ok (.iconst 0, 1) := ge_iconst_0 (by decide +kernel)
theorem d_X11_child_2 : decode prog_1_method_4_code 2 = .ok (.bipush 6, 2) := ge_bipush (by decide +kernel)
theorem d_X11_child_4 : decode prog_1_method_4_code 4 = .ok (.invokestatic 76, 3) := ge_invokestatic (by decide +kernel)
theorem d_X11_child_7 : decode prog_1_method_4_code 7 = .ok (.ifCond .eq 5, 3) := ge_ifCond_eq (by decide +kernel)
theorem d_X11_child_10 : decode prog_1_method_4_code 10 = .ok (.iconst (-1), 1) := ge_iconst_m1_ (by decide +kernel)
theorem d_X11_child_11 : decode prog_1_method_4_code 11 = .ok (.ireturn, 1) := ge_ireturn (by decide +kernel)
theorem d_X11_child_12 : decode prog_1_method_4_code 12 = .ok (.iload_n 2, 1) := ge_iload_n_2 (by decide +kernel)
theorem d_X11_child_13 : decode prog_1_method_4_code 13 = .ok (.iconst 0, 1) := ge_iconst_0 (by decide +kernel)
theorem d_X11_child_14 : decode prog_1_method_4_code 14 = .ok (.bipush 9, 2) := ge_bipush (by decide +kernel)
theorem d_X11_child_16 : decode prog_1_method_4_code 16 = .ok (.invokestatic 76, 3) := ge_invokestatic (by decide +kernel)
theorem d_X11_child_19 : decode prog_1_method_4_code 19 = .ok (.ifCond .eq 6, 3) := ge_ifCond_eq (by decide +kernel)
theorem d_X11_child_22 : decode prog_1_method_4_code 22 = .ok (.bipush (-2), 2) := ge_bipush (by decide +kernel)
theorem d_X11_child_24 : decode prog_1_method_4_code 24 = .ok (.ireturn, 1) := ge_ireturn (by decide +kernel)
theorem d_X11_child_25 : decode prog_1_method_4_code 25 = .ok (.aload_n 0, 1) := ge_aload_n_0 (by decide +kernel)
theorem d_X11_child_26 : decode prog_1_method_4_code 26 = .ok (.getfield 60, 3) := ge_getfield (by decide +kernel)
theorem d_X11_child_29 : decode prog_1_method_4_code 29 = .ok (.getfield 101, 3) := ge_getfield (by decide +kernel)
theorem d_X11_child_32 : decode prog_1_method_4_code 32 = .ok (.iconst 5, 1) := ge_iconst_5 (by decide +kernel)
theorem d_X11_child_33 : decode prog_1_method_4_code 33 = .ok (.if_icmp .lt 6, 3) := ge_if_icmp_lt (by decide +kernel)
theorem d_X11_child_36 : decode prog_1_method_4_code 36 = .ok (.bipush (-4), 2) := ge_bipush (by decide +kernel)
theorem d_X11_child_38 : decode prog_1_method_4_code 38 = .ok (.ireturn, 1) := ge_ireturn (by decide +kernel)
theorem d_X11_child_39 : decode prog_1_method_4_code 39 = .ok (.aload_n 0, 1) := ge_aload_n_0 (by decide +kernel)
theorem d_X11_child_40 : decode prog_1_method_4_code 40 = .ok (.getfield 60, 3) := ge_getfield (by decide +kernel)
theorem d_X11_child_43 : decode prog_1_method_4_code 43 = .ok (.getfield 104, 3) := ge_getfield (by decide +kernel)
theorem d_X11_child_46 : decode prog_1_method_4_code 46 = .ok (.aload_n 0, 1) := ge_aload_n_0 (by decide +kernel)
theorem d_X11_child_47 : decode prog_1_method_4_code 47 = .ok (.getfield 60, 3) := ge_getfield (by decide +kernel)
theorem d_X11_child_50 : decode prog_1_method_4_code 50 = .ok (.getfield 101, 3) := ge_getfield (by decide +kernel)
theorem d_X11_child_53 : decode prog_1_method_4_code 53 = .ok (.aaload, 1) := ge_aaload (by decide +kernel)
theorem d_X11_child_54 : decode prog_1_method_4_code 54 = .ok (.aload_n 0, 1) := ge_aload_n_0 (by decide +kernel)
theorem d_X11_child_55 : decode prog_1_method_4_code 55 = .ok (.getfield 13, 3) := ge_getfield (by decide +kernel)
theorem d_X11_child_58 : decode prog_1_method_4_code 58 = .ok (.iload_n 1, 1) := ge_iload_n_1 (by decide +kernel)
theorem d_X11_child_59 : decode prog_1_method_4_code 59 = .ok (.aaload, 1) := ge_aaload (by decide +kernel)
theorem d_X11_child_60 : decode prog_1_method_4_code 60 = .ok (.iload_n 2, 1) := ge_iload_n_2 (by decide +kernel)
theorem d_X11_child_61 : decode prog_1_method_4_code 61 = .ok (.aload_n 0, 1) := ge_aload_n_0 (by decide +kernel)
theorem d_X11_child_62 : decode prog_1_method_4_code 62 = .ok (.getfield 60, 3) := ge_getfield (by decide +kernel)
theorem d_X11_child_65 : decode prog_1_method_4_code 65 = .ok (.getfield 97, 3) := ge_getfield (by decide +kernel)
theorem d_X11_child_68 : decode prog_1_method_4_code 68 = .ok (.getfield 108, 3) := ge_getfield (by decide +kernel)
theorem d_X11_child_71 : decode prog_1_method_4_code 71 = .ok (.invokevirtual 111, 3) := ge_invokevirtual (by decide +kernel)
theorem d_X11_child_74 : decode prog_1_method_4_code 74 = .ok (.aload_n 0, 1) := ge_aload_n_0 (by decide +kernel)
theorem d_X11_child_75 : decode prog_1_method_4_code 75 = .ok (.getfield 60, 3) := ge_getfield (by decide +kernel)
theorem d_X11_child_78 : decode prog_1_method_4_code 78 = .ok (.dup, 1) := ge_dup (by decide +kernel)
theorem d_X11_child_79 : decode prog_1_method_4_code 79 = .ok (.getfield 101, 3) := ge_getfield (by decide +kernel)
theorem d_X11_child_82 : decode prog_1_method_4_code 82 = .ok (.iconst 1, 1) := ge_iconst_1 (by decide +kernel)
theorem d_X11_child_83 : decode prog_1_method_4_code 83 = .ok (.iadd, 1) := ge_iadd (by decide +kernel)
theorem d_X11_child_84 : decode prog_1_method_4_code 84 = .ok (.putfield 101, 3) := ge_putfield (by decide +kernel)
theorem d_X11_child_87 : decode prog_1_method_4_code 87 = .ok (.aload_n 0, 1) := ge_aload_n_0 (by decide +kernel)
theorem d_X11_child_88 : decode prog_1_method_4_code 88 = .ok (.getfield 60, 3) := ge_getfield (by decide +kernel)
theorem d_X11_child_91 : decode prog_1_method_4_code 91 = .ok (.getfield 101, 3) := ge_getfield (by decide +kernel)
theorem d_X11_child_94 : decode prog_1_method_4_code 94 = .ok (.iconst 1, 1) := ge_iconst_1 (by decide +kernel)
theorem d_X11_child_95 : decode prog_1_method_4_code 95 = .ok (.isub, 1) := ge_isub (by decide +kernel)
theorem d_X11_child_96 : decode prog_1_method_4_code 96 = .ok (.ireturn, 1) := ge_ireturn (by decide +kernel)
def f_X11_child (a0 : Nat) (a1 : Int32) (a2 : Int32) (μ : gm_M) : Option (Option Value × gm_M) := gm_bI (f_X11_isOutside a1 (0 : Int32) (6 : Int32) μ) (fun x2 m1 => if x2 = 0 then gm_bI (f_X11_isOutside a2 (0 : Int32) (9 : Int32) m1) (fun x4 m3 => if x4 = 0 then gm_gR m3 [16] a0 1 (fun v5 => gm_gI m3 [13] v5 1 (fun v6 => if v6 < (5 : Int32) then gm_gR m3 [16] a0 1 (fun v7 => gm_gR m3 [13] v7 2 (fun v8 => gm_gR m3 [16] a0 1 (fun v9 => gm_gI m3 [13] v9 1 (fun v10 => gm_aR m3 4 v8 v10 (fun v11 => gm_gR m3 [16] a0 0 (fun v12 => gm_aR m3 3 v12 a1 (fun v13 => gm_gR m3 [16] a0 1 (fun v14 => gm_gR m3 [13] v14 6 (fun v15 => gm_gI m3 [5] v15 1 (fun v16 => if gm_tag m3 v11 = 7 then gm_bV (f_X2_begin v11 v13 a2 v16 m3) (fun m17 => gm_gR m17 [16] a0 1 (fun v19 => gm_gI m17 [13] v19 1 (fun v20 => gm_pI m17 [13] v19 1 (v20 + (1 : Int32)) (fun m21 => gm_gR m21 [16] a0 1 (fun v22 => gm_gI m21 [13] v22 1 (fun v23 => some (some (.int (v23 - (1 : Int32))), m21))))))) else none)))))))))) else some (some (.int (-4 : Int32)), m3))) else some (some (.int (-2 : Int32)), m3)) else some (some (.int (-1 : Int32)), m1))
set_option maxHeartbeats 4000000 in
theorem c_X11_child (a0 : Nat) (a1 : Int32) (a2 : Int32) (μ : gm_M) : gm_Call ({ cls := "GumBubble", name := "child", desc := "(II)I" } : Jvm.MethodName) prog_1_method_4_code 3 (some .int) 1 0 0 [.ref a0, .int a1, .int a2] μ (f_X11_child a0 a1 a2 μ) := by
  refine gm_start PN_11 (Nat.le_of_ble_eq_true rfl) (fun res μe => ?_)
  unfold f_X11_child
  show gm_A "GumBubble" (gm_nm "child") _ _ _ _ _ _ _ _ _ 0 [(0, .ref a0), (1, .int a1), (2, .int a2)] [] _ _
  refine gm_iload_n d_X11_child_0 rfl 1 rfl ?_
  refine gm_iconst (v := 0) d_X11_child_1 (by decide) ?_
  refine gm_bipush (v := 6) d_X11_child_2 (by decide) ?_
  refine gm_callS [.int a1, .int (0 : Int32), .int (6 : Int32)] (c_X11_isOutside a1 (0 : Int32) (6 : Int32) μ) B_X11_isOutside gw_296 rfl rfl rfl d_X11_child_4 (gm_kI (fun x2 m1 => ?_))
  refine gm_if_eq (tgt := 12) d_X11_child_7 (by decide) (fun h7 => ?_) (fun h7 => ?_)
  ·
    refine gm_iload_n d_X11_child_12 rfl 2 rfl ?_
    refine gm_iconst (v := 0) d_X11_child_13 (by decide) ?_
    refine gm_bipush (v := 9) d_X11_child_14 (by decide) ?_
    refine gm_callS [.int a2, .int (0 : Int32), .int (9 : Int32)] (c_X11_isOutside a2 (0 : Int32) (9 : Int32) m1) B_X11_isOutside gw_296 rfl rfl rfl d_X11_child_16 (gm_kI (fun x4 m3 => ?_))
    refine gm_if_eq (tgt := 25) d_X11_child_19 (by decide) (fun h19 => ?_) (fun h19 => ?_)
    ·
      refine gm_aload_n d_X11_child_25 rfl 0 rfl ?_
      refine gm_getR F_11_now gw_262 d_X11_child_26 (fun v5 _ => ?_)
      refine gm_getI F_8_size gw_221 d_X11_child_29 (fun v6 _ => ?_)
      refine gm_iconst (v := 5) d_X11_child_32 (by decide) ?_
      refine gm_icmp_lt (tgt := 39) d_X11_child_33 (by decide) (fun h33 => ?_) (fun h33 => ?_)
      ·
        refine gm_aload_n d_X11_child_39 rfl 0 rfl ?_
        refine gm_getR F_11_now gw_262 d_X11_child_40 (fun v7 _ => ?_)
        refine gm_getR F_8_children gw_223 d_X11_child_43 (fun v8 _ => ?_)
        refine gm_aload_n d_X11_child_46 rfl 0 rfl ?_
        refine gm_getR F_11_now gw_262 d_X11_child_47 (fun v9 _ => ?_)
        refine gm_getI F_8_size gw_221 d_X11_child_50 (fun v10 _ => ?_)
        refine gm_aald (Or.inr rfl) d_X11_child_53 (fun v11 _ => ?_)
        refine gm_aload_n d_X11_child_54 rfl 0 rfl ?_
        refine gm_getR F_11_kinds gw_261 d_X11_child_55 (fun v12 _ => ?_)
        refine gm_iload_n d_X11_child_58 rfl 1 rfl ?_
        refine gm_aald (Or.inl rfl) d_X11_child_59 (fun v13 _ => ?_)
        refine gm_iload_n d_X11_child_60 rfl 2 rfl ?_
        refine gm_aload_n d_X11_child_61 rfl 0 rfl ?_
        refine gm_getR F_11_now gw_262 d_X11_child_62 (fun v14 _ => ?_)
        refine gm_getR F_8_afternoon gw_231 d_X11_child_65 (fun v15 _ => ?_)
        refine gm_getI F_0_sweet gw_129 d_X11_child_68 (fun v16 _ => ?_)
        refine gm_grd (fun g71 => ?_)
        refine gm_callV (k0 := 2) [.ref v13, .int a2, .int v16] (c_X2_begin v11 v13 a2 v16 m3) g71 rfl B_X2_begin gw_470 gw_472 rfl rfl rfl d_X11_child_71 (gm_kV (fun m17 => ?_))
        refine gm_aload_n d_X11_child_74 rfl 0 rfl ?_
        refine gm_getR F_11_now gw_262 d_X11_child_75 (fun v19 _ => ?_)
        refine gm_dup d_X11_child_78 rfl ?_
        refine gm_getI F_8_size gw_221 d_X11_child_79 (fun v20 _ => ?_)
        refine gm_iconst (v := 1) d_X11_child_82 (by decide) ?_
        refine gm_iadd d_X11_child_83 ?_
        refine gm_putI F_8_size (Or.inl rfl) gw_221 d_X11_child_84 (fun m21 _ => ?_)
        refine gm_aload_n d_X11_child_87 rfl 0 rfl ?_
        refine gm_getR F_11_now gw_262 d_X11_child_88 (fun v22 _ => ?_)
        refine gm_getI F_8_size gw_221 d_X11_child_91 (fun v23 _ => ?_)
        refine gm_iconst (v := 1) d_X11_child_94 (by decide) ?_
        refine gm_isub d_X11_child_95 ?_
        exact gm_iret rfl d_X11_child_96 (Nat.le_of_ble_eq_true rfl) (Nat.le_of_ble_eq_true rfl) (fun h => h)
      ·
        refine gm_bipush (v := -4) d_X11_child_36 (by decide) ?_
        exact gm_iret rfl d_X11_child_38 (Nat.le_of_ble_eq_true rfl) (Nat.le_of_ble_eq_true rfl) (fun h => h)
    ·
      refine gm_bipush (v := -2) d_X11_child_22 (by decide) ?_
      exact gm_iret rfl d_X11_child_24 (Nat.le_of_ble_eq_true rfl) (Nat.le_of_ble_eq_true rfl) (fun h => h)
  ·
    refine gm_iconst (v := -1) d_X11_child_10 (by decide) ?_
    exact gm_iret rfl d_X11_child_11 (Nat.le_of_ble_eq_true rfl) (Nat.le_of_ble_eq_true rfl) (fun h => h)
theorem d_X11_clean_0 : decode prog_1_method_23_code 0 = .ok (.aload_n 0, 1) := ge_aload_n_0 (by decide +kernel)
theorem d_X11_clean_1 : decode prog_1_method_23_code 1 = .ok (.iload_n 1, 1) := ge_iload_n_1 (by decide +kernel)
theorem d_X11_clean_2 : decode prog_1_method_23_code 2 = .ok (.invokevirtual 115, 3) := ge_invokevirtual (by decide +kernel)
theorem d_X11_clean_5 : decode prog_1_method_23_code 5 = .ok (.ifCond .eq 5, 3) := ge_ifCond_eq (by decide +kernel)
theorem d_X11_clean_8 : decode prog_1_method_23_code 8 = .ok (.iconst (-1), 1) := ge_iconst_m1_ (by decide +kernel)
theorem d_X11_clean_9 : decode prog_1_method_23_code 9 = .ok (.ireturn, 1) := ge_ireturn (by decide +kernel)
theorem d_X11_clean_10 : decode prog_1_method_23_code 10 = .ok (.iload_n 2, 1) := ge_iload_n_2 (by decide +kernel)
theorem d_X11_clean_11 : decode prog_1_method_23_code 11 = .ok (.iconst 1, 1) := ge_iconst_1 (by decide +kernel)
theorem d_X11_clean_12 : decode prog_1_method_23_code 12 = .ok (.bipush 99, 2) := ge_bipush (by decide +kernel)
theorem d_X11_clean_14 : decode prog_1_method_23_code 14 = .ok (.invokestatic 76, 3) := ge_invokestatic (by decide +kernel)
theorem d_X11_clean_17 : decode prog_1_method_23_code 17 = .ok (.ifCond .eq 6, 3) := ge_ifCond_eq (by decide +kernel)
theorem d_X11_clean_20 : decode prog_1_method_23_code 20 = .ok (.bipush (-2), 2) := ge_bipush (by decide +kernel)
theorem d_X11_clean_22 : decode prog_1_method_23_code 22 = .ok (.ireturn, 1) := ge_ireturn (by decide +kernel)
theorem d_X11_clean_23 : decode prog_1_method_23_code 23 = .ok (.aload_n 0, 1) := ge_aload_n_0 (by decide +kernel)
theorem d_X11_clean_24 : decode prog_1_method_23_code 24 = .ok (.getfield 60, 3) := ge_getfield (by decide +kernel)
theorem d_X11_clean_27 : decode prog_1_method_23_code 27 = .ok (.getfield 104, 3) := ge_getfield (by decide +kernel)
theorem d_X11_clean_30 : decode prog_1_method_23_code 30 = .ok (.iload_n 1, 1) := ge_iload_n_1 (by decide +kernel)
theorem d_X11_clean_31 : decode prog_1_method_23_code 31 = .ok (.aaload, 1) := ge_aaload (by decide +kernel)
theorem d_X11_clean_32 : decode prog_1_method_23_code 32 = .ok (.getfield 141, 3) := ge_getfield (by decide +kernel)
theorem d_X11_clean_35 : decode prog_1_method_23_code 35 = .ok (.iload_n 2, 1) := ge_iload_n_2 (by decide +kernel)
theorem d_X11_clean_36 : decode prog_1_method_23_code 36 = .ok (.iadd, 1) := ge_iadd (by decide +kernel)
theorem d_X11_clean_37 : decode prog_1_method_23_code 37 = .ok (.iconst 1, 1) := ge_iconst_1 (by decide +kernel)
theorem d_X11_clean_38 : decode prog_1_method_23_code 38 = .ok (.isub, 1) := ge_isub (by decide +kernel)
theorem d_X11_clean_39 : decode prog_1_method_23_code 39 = .ok (.iload_n 2, 1) := ge_iload_n_2 (by decide +kernel)
theorem d_X11_clean_40 : decode prog_1_method_23_code 40 = .ok (.idiv, 1) := ge_idiv (by decide +kernel)
theorem d_X11_clean_41 : decode prog_1_method_23_code 41 = .ok (.ireturn, 1) := ge_ireturn (by decide +kernel)
def f_X11_clean (a0 : Nat) (a1 : Int32) (a2 : Int32) (μ : gm_M) : Option (Option Value × gm_M) := if gm_tag μ a0 = 16 then gm_bI (f_X11_isNobody a0 a1 μ) (fun x2 m1 => if x2 = 0 then gm_bI (f_X11_isOutside a2 (1 : Int32) (99 : Int32) m1) (fun x4 m3 => if x4 = 0 then gm_gR m3 [16] a0 1 (fun v5 => gm_gR m3 [13] v5 2 (fun v6 => gm_aR m3 4 v6 a1 (fun v7 => gm_gI m3 [7] v7 7 (fun v8 => if a2 = 0 then none else some (some (.int (((v8 + a2) - (1 : Int32)) / a2)), m3))))) else some (some (.int (-2 : Int32)), m3)) else some (some (.int (-1 : Int32)), m1)) else none
set_option maxHeartbeats 4000000 in
theorem c_X11_clean (a0 : Nat) (a1 : Int32) (a2 : Int32) (μ : gm_M) : gm_Call ({ cls := "GumBubble", name := "clean", desc := "(II)I" } : Jvm.MethodName) prog_1_method_23_code 3 (some .int) 2 0 0 [.ref a0, .int a1, .int a2] μ (f_X11_clean a0 a1 a2 μ) := by
  refine gm_start PN_11 (Nat.le_of_ble_eq_true rfl) (fun res μe => ?_)
  unfold f_X11_clean
  show gm_A "GumBubble" (gm_nm "clean") _ _ _ _ _ _ _ _ _ 0 [(0, .ref a0), (1, .int a1), (2, .int a2)] [] _ _
  refine gm_aload_n d_X11_clean_0 rfl 0 rfl ?_
  refine gm_iload_n d_X11_clean_1 rfl 1 rfl ?_
  refine gm_grd (fun g2 => ?_)
  refine gm_callV (k0 := 11) [.int a1] (c_X11_isNobody a0 a1 μ) g2 rfl B_X11_isNobody gw_478 gs_11 rfl rfl rfl d_X11_clean_2 (gm_kI (fun x2 m1 => ?_))
  refine gm_if_eq (tgt := 10) d_X11_clean_5 (by decide) (fun h5 => ?_) (fun h5 => ?_)
  ·
    refine gm_iload_n d_X11_clean_10 rfl 2 rfl ?_
    refine gm_iconst (v := 1) d_X11_clean_11 (by decide) ?_
    refine gm_bipush (v := 99) d_X11_clean_12 (by decide) ?_
    refine gm_callS [.int a2, .int (1 : Int32), .int (99 : Int32)] (c_X11_isOutside a2 (1 : Int32) (99 : Int32) m1) B_X11_isOutside gw_296 rfl rfl rfl d_X11_clean_14 (gm_kI (fun x4 m3 => ?_))
    refine gm_if_eq (tgt := 23) d_X11_clean_17 (by decide) (fun h17 => ?_) (fun h17 => ?_)
    ·
      refine gm_aload_n d_X11_clean_23 rfl 0 rfl ?_
      refine gm_getR F_11_now gw_262 d_X11_clean_24 (fun v5 _ => ?_)
      refine gm_getR F_8_children gw_223 d_X11_clean_27 (fun v6 _ => ?_)
      refine gm_iload_n d_X11_clean_30 rfl 1 rfl ?_
      refine gm_aald (Or.inr rfl) d_X11_clean_31 (fun v7 _ => ?_)
      refine gm_getI F_2_hair gw_195 d_X11_clean_32 (fun v8 _ => ?_)
      refine gm_iload_n d_X11_clean_35 rfl 2 rfl ?_
      refine gm_iadd d_X11_clean_36 ?_
      refine gm_iconst (v := 1) d_X11_clean_37 (by decide) ?_
      refine gm_isub d_X11_clean_38 ?_
      refine gm_iload_n d_X11_clean_39 rfl 2 rfl ?_
      refine gm_idiv d_X11_clean_40 ?_
      exact gm_iret rfl d_X11_clean_41 (Nat.le_of_ble_eq_true rfl) (Nat.le_of_ble_eq_true rfl) (fun h => h)
    ·
      refine gm_bipush (v := -2) d_X11_clean_20 (by decide) ?_
      exact gm_iret rfl d_X11_clean_22 (Nat.le_of_ble_eq_true rfl) (Nat.le_of_ble_eq_true rfl) (fun h => h)
  ·
    refine gm_iconst (v := -1) d_X11_clean_8 (by decide) ?_
    exact gm_iret rfl d_X11_clean_9 (Nat.le_of_ble_eq_true rfl) (Nat.le_of_ble_eq_true rfl) (fun h => h)
theorem d_X11_count_0 : decode prog_1_method_38_code 0 = .ok (.iload_n 1, 1) := ge_iload_n_1 (by decide +kernel)
theorem d_X11_count_1 : decode prog_1_method_38_code 1 = .ok (.tableswitch 108 0 6 #[43, 51, 59, 70, 81, 92, 100], 43) := by decide +kernel
theorem d_X11_count_44 : decode prog_1_method_38_code 44 = .ok (.aload_n 0, 1) := ge_aload_n_0 (by decide +kernel)
theorem d_X11_count_45 : decode prog_1_method_38_code 45 = .ok (.getfield 60, 3) := ge_getfield (by decide +kernel)
theorem d_X11_count_48 : decode prog_1_method_38_code 48 = .ok (.getfield 101, 3) := ge_getfield (by decide +kernel)
theorem d_X11_count_51 : decode prog_1_method_38_code 51 = .ok (.ireturn, 1) := ge_ireturn (by decide +kernel)
theorem d_X11_count_52 : decode prog_1_method_38_code 52 = .ok (.aload_n 0, 1) := ge_aload_n_0 (by decide +kernel)
theorem d_X11_count_53 : decode prog_1_method_38_code 53 = .ok (.getfield 60, 3) := ge_getfield (by decide +kernel)
theorem d_X11_count_56 : decode prog_1_method_38_code 56 = .ok (.getfield 87, 3) := ge_getfield (by decide +kernel)
theorem d_X11_count_59 : decode prog_1_method_38_code 59 = .ok (.ireturn, 1) := ge_ireturn (by decide +kernel)
theorem d_X11_count_60 : decode prog_1_method_38_code 60 = .ok (.aload_n 0, 1) := ge_aload_n_0 (by decide +kernel)
theorem d_X11_count_61 : decode prog_1_method_38_code 61 = .ok (.getfield 60, 3) := ge_getfield (by decide +kernel)
theorem d_X11_count_64 : decode prog_1_method_38_code 64 = .ok (.getfield 233, 3) := ge_getfield (by decide +kernel)
theorem d_X11_count_67 : decode prog_1_method_38_code 67 = .ok (.getfield 259, 3) := ge_getfield (by decide +kernel)
theorem d_X11_count_70 : decode prog_1_method_38_code 70 = .ok (.ireturn, 1) := ge_ireturn (by decide +kernel)
theorem d_X11_count_71 : decode prog_1_method_38_code 71 = .ok (.aload_n 0, 1) := ge_aload_n_0 (by decide +kernel)
theorem d_X11_count_72 : decode prog_1_method_38_code 72 = .ok (.getfield 60, 3) := ge_getfield (by decide +kernel)
theorem d_X11_count_75 : decode prog_1_method_38_code 75 = .ok (.getfield 250, 3) := ge_getfield (by decide +kernel)
theorem d_X11_count_78 : decode prog_1_method_38_code 78 = .ok (.getfield 259, 3) := ge_getfield (by decide +kernel)
theorem d_X11_count_81 : decode prog_1_method_38_code 81 = .ok (.ireturn, 1) := ge_ireturn (by decide +kernel)
theorem d_X11_count_82 : decode prog_1_method_38_code 82 = .ok (.aload_n 0, 1) := ge_aload_n_0 (by decide +kernel)
theorem d_X11_count_83 : decode prog_1_method_38_code 83 = .ok (.getfield 60, 3) := ge_getfield (by decide +kernel)
theorem d_X11_count_86 : decode prog_1_method_38_code 86 = .ok (.getfield 256, 3) := ge_getfield (by decide +kernel)
theorem d_X11_count_89 : decode prog_1_method_38_code 89 = .ok (.getfield 259, 3) := ge_getfield (by decide +kernel)
theorem d_X11_count_92 : decode prog_1_method_38_code 92 = .ok (.ireturn, 1) := ge_ireturn (by decide +kernel)
theorem d_X11_count_93 : decode prog_1_method_38_code 93 = .ok (.aload_n 0, 1) := ge_aload_n_0 (by decide +kernel)
theorem d_X11_count_94 : decode prog_1_method_38_code 94 = .ok (.getfield 60, 3) := ge_getfield (by decide +kernel)
theorem d_X11_count_97 : decode prog_1_method_38_code 97 = .ok (.getfield 80, 3) := ge_getfield (by decide +kernel)
theorem d_X11_count_100 : decode prog_1_method_38_code 100 = .ok (.ireturn, 1) := ge_ireturn (by decide +kernel)
theorem d_X11_count_101 : decode prog_1_method_38_code 101 = .ok (.aload_n 0, 1) := ge_aload_n_0 (by decide +kernel)
theorem d_X11_count_102 : decode prog_1_method_38_code 102 = .ok (.getfield 22, 3) := ge_getfield (by decide +kernel)
theorem d_X11_count_105 : decode prog_1_method_38_code 105 = .ok (.getfield 259, 3) := ge_getfield (by decide +kernel)
theorem d_X11_count_108 : decode prog_1_method_38_code 108 = .ok (.ireturn, 1) := ge_ireturn (by decide +kernel)
theorem d_X11_count_109 : decode prog_1_method_38_code 109 = .ok (.iconst (-1), 1) := ge_iconst_m1_ (by decide +kernel)
theorem d_X11_count_110 : decode prog_1_method_38_code 110 = .ok (.ireturn, 1) := ge_ireturn (by decide +kernel)
def f_X11_count (a0 : Nat) (a1 : Int32) (μ : gm_M) : Option (Option Value × gm_M) := if a1 = 0 then gm_gR μ [16] a0 1 (fun v1 => gm_gI μ [13] v1 1 (fun v2 => some (some (.int v2), μ))) else if a1 = 1 then gm_gR μ [16] a0 1 (fun v3 => gm_gI μ [13] v3 5 (fun v4 => some (some (.int v4), μ))) else if a1 = 2 then gm_gR μ [16] a0 1 (fun v5 => gm_gR μ [13] v5 7 (fun v6 => gm_gI μ [12] v6 2 (fun v7 => some (some (.int v7), μ)))) else if a1 = 3 then gm_gR μ [16] a0 1 (fun v8 => gm_gR μ [13] v8 8 (fun v9 => gm_gI μ [12] v9 2 (fun v10 => some (some (.int v10), μ)))) else if a1 = 4 then gm_gR μ [16] a0 1 (fun v11 => gm_gR μ [13] v11 9 (fun v12 => gm_gI μ [12] v12 2 (fun v13 => some (some (.int v13), μ)))) else if a1 = 5 then gm_gR μ [16] a0 1 (fun v14 => gm_gI μ [13] v14 4 (fun v15 => some (some (.int v15), μ))) else if a1 = 6 then gm_gR μ [16] a0 4 (fun v16 => gm_gI μ [12] v16 2 (fun v17 => some (some (.int v17), μ))) else some (some (.int (-1 : Int32)), μ)
set_option maxHeartbeats 4000000 in
theorem c_X11_count (a0 : Nat) (a1 : Int32) (μ : gm_M) : gm_Call ({ cls := "GumBubble", name := "count", desc := "(I)I" } : Jvm.MethodName) prog_1_method_38_code 2 (some .int) 0 0 0 [.ref a0, .int a1] μ (f_X11_count a0 a1 μ) := by
  refine gm_start PN_11 (Nat.le_of_ble_eq_true rfl) (fun res μe => ?_)
  unfold f_X11_count
  show gm_A "GumBubble" (gm_nm "count") _ _ _ _ _ _ _ _ _ 0 [(0, .ref a0), (1, .int a1)] [] _ _
  refine gm_iload_n d_X11_count_0 rfl 1 rfl ?_
  refine gm_ite (P := a1 = 0) (fun h1_0 => ?_) (fun h1_0 => ?_)
  ·
    refine gm_swIn (v := 0) (off := 43) (tgt := 44) d_X11_count_1 (by rw [h1_0] <;> rfl) (by decide) (by decide) (by decide) (by decide) ?_
    refine gm_aload_n d_X11_count_44 rfl 0 rfl ?_
    refine gm_getR F_11_now gw_262 d_X11_count_45 (fun v1 _ => ?_)
    refine gm_getI F_8_size gw_221 d_X11_count_48 (fun v2 _ => ?_)
    exact gm_iret rfl d_X11_count_51 (Nat.le_of_ble_eq_true rfl) (Nat.le_of_ble_eq_true rfl) (fun h => h)
  ·
    refine gm_ite (P := a1 = 1) (fun h1_1 => ?_) (fun h1_1 => ?_)
    ·
      refine gm_swIn (v := 1) (off := 51) (tgt := 52) d_X11_count_1 (by rw [h1_1] <;> rfl) (by decide) (by decide) (by decide) (by decide) ?_
      refine gm_aload_n d_X11_count_52 rfl 0 rfl ?_
      refine gm_getR F_11_now gw_262 d_X11_count_53 (fun v3 _ => ?_)
      refine gm_getI F_8_afternoons gw_229 d_X11_count_56 (fun v4 _ => ?_)
      exact gm_iret rfl d_X11_count_59 (Nat.le_of_ble_eq_true rfl) (Nat.le_of_ble_eq_true rfl) (fun h => h)
    ·
      refine gm_ite (P := a1 = 2) (fun h1_2 => ?_) (fun h1_2 => ?_)
      ·
        refine gm_swIn (v := 2) (off := 59) (tgt := 60) d_X11_count_1 (by rw [h1_2] <;> rfl) (by decide) (by decide) (by decide) (by decide) ?_
        refine gm_aload_n d_X11_count_60 rfl 0 rfl ?_
        refine gm_getR F_11_now gw_262 d_X11_count_61 (fun v5 _ => ?_)
        refine gm_getR F_8_seen gw_233 d_X11_count_64 (fun v6 _ => ?_)
        refine gm_getI F_7_count gw_43 d_X11_count_67 (fun v7 _ => ?_)
        exact gm_iret rfl d_X11_count_70 (Nat.le_of_ble_eq_true rfl) (Nat.le_of_ble_eq_true rfl) (fun h => h)
      ·
        refine gm_ite (P := a1 = 3) (fun h1_3 => ?_) (fun h1_3 => ?_)
        ·
          refine gm_swIn (v := 3) (off := 70) (tgt := 71) d_X11_count_1 (by rw [h1_3] <;> rfl) (by decide) (by decide) (by decide) (by decide) ?_
          refine gm_aload_n d_X11_count_71 rfl 0 rfl ?_
          refine gm_getR F_11_now gw_262 d_X11_count_72 (fun v8 _ => ?_)
          refine gm_getR F_8_plan gw_235 d_X11_count_75 (fun v9 _ => ?_)
          refine gm_getI F_7_count gw_43 d_X11_count_78 (fun v10 _ => ?_)
          exact gm_iret rfl d_X11_count_81 (Nat.le_of_ble_eq_true rfl) (Nat.le_of_ble_eq_true rfl) (fun h => h)
        ·
          refine gm_ite (P := a1 = 4) (fun h1_4 => ?_) (fun h1_4 => ?_)
          ·
            refine gm_swIn (v := 4) (off := 81) (tgt := 82) d_X11_count_1 (by rw [h1_4] <;> rfl) (by decide) (by decide) (by decide) (by decide) ?_
            refine gm_aload_n d_X11_count_82 rfl 0 rfl ?_
            refine gm_getR F_11_now gw_262 d_X11_count_83 (fun v11 _ => ?_)
            refine gm_getR F_8_book gw_237 d_X11_count_86 (fun v12 _ => ?_)
            refine gm_getI F_7_count gw_43 d_X11_count_89 (fun v13 _ => ?_)
            exact gm_iret rfl d_X11_count_92 (Nat.le_of_ble_eq_true rfl) (Nat.le_of_ble_eq_true rfl) (fun h => h)
          ·
            refine gm_ite (P := a1 = 5) (fun h1_5 => ?_) (fun h1_5 => ?_)
            ·
              refine gm_swIn (v := 5) (off := 92) (tgt := 93) d_X11_count_1 (by rw [h1_5] <;> rfl) (by decide) (by decide) (by decide) (by decide) ?_
              refine gm_aload_n d_X11_count_93 rfl 0 rfl ?_
              refine gm_getR F_11_now gw_262 d_X11_count_94 (fun v14 _ => ?_)
              refine gm_getI F_8_tapeSize gw_226 d_X11_count_97 (fun v15 _ => ?_)
              exact gm_iret rfl d_X11_count_100 (Nat.le_of_ble_eq_true rfl) (Nat.le_of_ble_eq_true rfl) (fun h => h)
            ·
              refine gm_ite (P := a1 = 6) (fun h1_6 => ?_) (fun h1_6 => ?_)
              ·
                refine gm_swIn (v := 6) (off := 100) (tgt := 101) d_X11_count_1 (by rw [h1_6] <;> rfl) (by decide) (by decide) (by decide) (by decide) ?_
                refine gm_aload_n d_X11_count_101 rfl 0 rfl ?_
                refine gm_getR F_11_trace gw_265 d_X11_count_102 (fun v16 _ => ?_)
                refine gm_getI F_7_count gw_43 d_X11_count_105 (fun v17 _ => ?_)
                exact gm_iret rfl d_X11_count_108 (Nat.le_of_ble_eq_true rfl) (Nat.le_of_ble_eq_true rfl) (fun h => h)
              ·
                refine gm_swOut (tgt := 109) d_X11_count_1 (by have g0 := lv_neT h1_0 (show (0 : Int32).toInt = 0 from rfl); have g1 := lv_neT h1_1 (show (1 : Int32).toInt = 1 from rfl); have g2 := lv_neT h1_2 (show (2 : Int32).toInt = 2 from rfl); have g3 := lv_neT h1_3 (show (3 : Int32).toInt = 3 from rfl); have g4 := lv_neT h1_4 (show (4 : Int32).toInt = 4 from rfl); have g5 := lv_neT h1_5 (show (5 : Int32).toInt = 5 from rfl); have g6 := lv_neT h1_6 (show (6 : Int32).toInt = 6 from rfl); omega) (by decide) ?_
                refine gm_iconst (v := -1) d_X11_count_109 (by decide) ?_
                exact gm_iret rfl d_X11_count_110 (Nat.le_of_ble_eq_true rfl) (Nat.le_of_ble_eq_true rfl) (fun h => h)
theorem d_X11_thinsBearing_0 : decode prog_1_method_48_code 0 = .ok (.bipush 10, 2) := ge_bipush (by decide +kernel)
theorem d_X11_thinsBearing_2 : decode prog_1_method_48_code 2 = .ok (.iload_n 0, 1) := ge_iload_n_0 (by decide +kernel)
theorem d_X11_thinsBearing_3 : decode prog_1_method_48_code 3 = .ok (.iload_n 1, 1) := ge_iload_n_1 (by decide +kernel)
theorem d_X11_thinsBearing_4 : decode prog_1_method_48_code 4 = .ok (.invokestatic 217, 3) := ge_invokestatic (by decide +kernel)
theorem d_X11_thinsBearing_7 : decode prog_1_method_48_code 7 = .ok (.isub, 1) := ge_isub (by decide +kernel)
theorem d_X11_thinsBearing_8 : decode prog_1_method_48_code 8 = .ok (.ireturn, 1) := ge_ireturn (by decide +kernel)
def f_X11_thinsBearing (a0 : Int32) (a1 : Int32) (μ : gm_M) : Option (Option Value × gm_M) := gm_bI (f_X11_thinsBelow a0 a1 μ) (fun x2 m1 => some (some (.int ((10 : Int32) - x2)), m1))
set_option maxHeartbeats 4000000 in
theorem c_X11_thinsBearing (a0 : Int32) (a1 : Int32) (μ : gm_M) : gm_Call ({ cls := "GumBubble", name := "thinsBearing", desc := "(II)I" } : Jvm.MethodName) prog_1_method_48_code 2 (some .int) 3 0 0 [.int a0, .int a1] μ (f_X11_thinsBearing a0 a1 μ) := by
  refine gm_start PN_11 (Nat.le_of_ble_eq_true rfl) (fun res μe => ?_)
  unfold f_X11_thinsBearing
  show gm_A "GumBubble" (gm_nm "thinsBearing") _ _ _ _ _ _ _ _ _ 0 [(0, .int a0), (1, .int a1)] [] _ _
  refine gm_bipush (v := 10) d_X11_thinsBearing_0 (by decide) ?_
  refine gm_iload_n d_X11_thinsBearing_2 rfl 0 rfl ?_
  refine gm_iload_n d_X11_thinsBearing_3 rfl 1 rfl ?_
  refine gm_callS [.int a0, .int a1] (c_X11_thinsBelow a0 a1 μ) B_X11_thinsBelow gw_656 rfl rfl rfl d_X11_thinsBearing_4 (gm_kI (fun x2 m1 => ?_))
  refine gm_isub d_X11_thinsBearing_7 ?_
  exact gm_iret rfl d_X11_thinsBearing_8 (Nat.le_of_ble_eq_true rfl) (Nat.le_of_ble_eq_true rfl) (fun h => h)
theorem d_X11_dare_0 : decode prog_1_method_18_code 0 = .ok (.aload_n 0, 1) := ge_aload_n_0 (by decide +kernel)
theorem d_X11_dare_1 : decode prog_1_method_18_code 1 = .ok (.iload_n 1, 1) := ge_iload_n_1 (by decide +kernel)
theorem d_X11_dare_2 : decode prog_1_method_18_code 2 = .ok (.invokevirtual 115, 3) := ge_invokevirtual (by decide +kernel)
theorem d_X11_dare_5 : decode prog_1_method_18_code 5 = .ok (.ifCond .eq 5, 3) := ge_ifCond_eq (by decide +kernel)
theorem d_X11_dare_8 : decode prog_1_method_18_code 8 = .ok (.iconst (-1), 1) := ge_iconst_m1_ (by decide +kernel)
theorem d_X11_dare_9 : decode prog_1_method_18_code 9 = .ok (.ireturn, 1) := ge_ireturn (by decide +kernel)
theorem d_X11_dare_10 : decode prog_1_method_18_code 10 = .ok (.aload_n 0, 1) := ge_aload_n_0 (by decide +kernel)
theorem d_X11_dare_11 : decode prog_1_method_18_code 11 = .ok (.iload_n 1, 1) := ge_iload_n_1 (by decide +kernel)
theorem d_X11_dare_12 : decode prog_1_method_18_code 12 = .ok (.invokevirtual 158, 3) := ge_invokevirtual (by decide +kernel)
theorem d_X11_dare_15 : decode prog_1_method_18_code 15 = .ok (.istore_n 2, 1) := ge_istore_n_2 (by decide +kernel)
theorem d_X11_dare_16 : decode prog_1_method_18_code 16 = .ok (.iconst 0, 1) := ge_iconst_0 (by decide +kernel)
theorem d_X11_dare_17 : decode prog_1_method_18_code 17 = .ok (.istore_n 3, 1) := ge_istore_n_3 (by decide +kernel)
theorem d_X11_dare_18 : decode prog_1_method_18_code 18 = .ok (.iconst 0, 1) := ge_iconst_0 (by decide +kernel)
theorem d_X11_dare_19 : decode prog_1_method_18_code 19 = .ok (.istore 4, 2) := ge_istore (by decide +kernel)
theorem d_X11_dare_21 : decode prog_1_method_18_code 21 = .ok (.bipush 9, 2) := ge_bipush (by decide +kernel)
theorem d_X11_dare_23 : decode prog_1_method_18_code 23 = .ok (.istore 5, 2) := ge_istore (by decide +kernel)
theorem d_X11_dare_25 : decode prog_1_method_18_code 25 = .ok (.iload 5, 2) := ge_iload (by decide +kernel)
theorem d_X11_dare_27 : decode prog_1_method_18_code 27 = .ok (.ifCond .lt 47, 3) := ge_ifCond_lt (by decide +kernel)
theorem d_X11_dare_30 : decode prog_1_method_18_code 30 = .ok (.sipush 999, 3) := ge_sipush (by decide +kernel)
theorem d_X11_dare_33 : decode prog_1_method_18_code 33 = .ok (.iload_n 2, 1) := ge_iload_n_2 (by decide +kernel)
theorem d_X11_dare_34 : decode prog_1_method_18_code 34 = .ok (.iload 5, 2) := ge_iload (by decide +kernel)
theorem d_X11_dare_36 : decode prog_1_method_18_code 36 = .ok (.invokestatic 211, 3) := ge_invokestatic (by decide +kernel)
theorem d_X11_dare_39 : decode prog_1_method_18_code 39 = .ok (.invokestatic 214, 3) := ge_invokestatic (by decide +kernel)
theorem d_X11_dare_42 : decode prog_1_method_18_code 42 = .ok (.istore 6, 2) := ge_istore (by decide +kernel)
theorem d_X11_dare_44 : decode prog_1_method_18_code 44 = .ok (.iload 6, 2) := ge_iload (by decide +kernel)
theorem d_X11_dare_46 : decode prog_1_method_18_code 46 = .ok (.iload_n 2, 1) := ge_iload_n_2 (by decide +kernel)
theorem d_X11_dare_47 : decode prog_1_method_18_code 47 = .ok (.iload 6, 2) := ge_iload (by decide +kernel)
theorem d_X11_dare_49 : decode prog_1_method_18_code 49 = .ok (.invokestatic 204, 3) := ge_invokestatic (by decide +kernel)
theorem d_X11_dare_52 : decode prog_1_method_18_code 52 = .ok (.imul, 1) := ge_imul (by decide +kernel)
theorem d_X11_dare_53 : decode prog_1_method_18_code 53 = .ok (.istore 7, 2) := ge_istore (by decide +kernel)
theorem d_X11_dare_55 : decode prog_1_method_18_code 55 = .ok (.iload 7, 2) := ge_iload (by decide +kernel)
theorem d_X11_dare_57 : decode prog_1_method_18_code 57 = .ok (.iload_n 3, 1) := ge_iload_n_3 (by decide +kernel)
theorem d_X11_dare_58 : decode prog_1_method_18_code 58 = .ok (.if_icmp .le 10, 3) := ge_if_icmp_le (by decide +kernel)
theorem d_X11_dare_61 : decode prog_1_method_18_code 61 = .ok (.iload 7, 2) := ge_iload (by decide +kernel)
theorem d_X11_dare_63 : decode prog_1_method_18_code 63 = .ok (.istore_n 3, 1) := ge_istore_n_3 (by decide +kernel)
theorem d_X11_dare_64 : decode prog_1_method_18_code 64 = .ok (.iload 6, 2) := ge_iload (by decide +kernel)
theorem d_X11_dare_66 : decode prog_1_method_18_code 66 = .ok (.istore 4, 2) := ge_istore (by decide +kernel)
theorem d_X11_dare_68 : decode prog_1_method_18_code 68 = .ok (.iinc 5 (-1), 3) := ge_iinc (by decide +kernel)
theorem d_X11_dare_71 : decode prog_1_method_18_code 71 = .ok (.goto (-46), 3) := ge_goto (by decide +kernel)
theorem d_X11_dare_74 : decode prog_1_method_18_code 74 = .ok (.iload 4, 2) := ge_iload (by decide +kernel)
theorem d_X11_dare_76 : decode prog_1_method_18_code 76 = .ok (.ireturn, 1) := ge_ireturn (by decide +kernel)
def f_X11_dare (a0 : Nat) (a1 : Int32) (μ : gm_M) : Option (Option Value × gm_M) := if gm_tag μ a0 = 16 then gm_bI (f_X11_isNobody a0 a1 μ) (fun x2 m1 => if x2 = 0 then if gm_tag m1 a0 = 16 then gm_bI (f_X11_holdsNow a0 a1 m1) (fun x4 m3 => gm_loop (fun (s5 : Int32 × Int32 × Int32 × gm_M) => if s5.2.2.1 < 0 then some (Sum.inr (some (.int s5.2.1), s5.2.2.2)) else gm_bI (f_X11_thinned x4 s5.2.2.1 s5.2.2.2) (fun x7 m6 => gm_bI (f_X11_thinsBearing x4 (if x7 < (999 : Int32) then x7 else (999 : Int32)) m6) (fun x10 m9 => gm_j (fun (s11 : Int32 × Int32) => some (Sum.inl (s11.1, s11.2, (s5.2.2.1 + (-1 : Int32)), m9))) (fun j12 => if ((if x7 < (999 : Int32) then x7 else (999 : Int32)) * x10) ≤ s5.1 then j12 (s5.1, s5.2.1) else j12 (((if x7 < (999 : Int32) then x7 else (999 : Int32)) * x10), (if x7 < (999 : Int32) then x7 else (999 : Int32))))))) 5000 ((0 : Int32), (0 : Int32), (9 : Int32), m3)) else none else some (some (.int (-1 : Int32)), m1)) else none
set_option maxHeartbeats 4000000 in
theorem c_X11_dare (a0 : Nat) (a1 : Int32) (μ : gm_M) : gm_Call ({ cls := "GumBubble", name := "dare", desc := "(I)I" } : Jvm.MethodName) prog_1_method_18_code 8 (some .int) 5 0 0 [.ref a0, .int a1] μ (f_X11_dare a0 a1 μ) := by
  refine gm_start PN_11 (Nat.le_of_ble_eq_true rfl) (fun res μe => ?_)
  unfold f_X11_dare
  show gm_A "GumBubble" (gm_nm "dare") _ _ _ _ _ _ _ _ _ 0 [(0, .ref a0), (1, .int a1)] [] _ _
  refine gm_aload_n d_X11_dare_0 rfl 0 rfl ?_
  refine gm_iload_n d_X11_dare_1 rfl 1 rfl ?_
  refine gm_grd (fun g2 => ?_)
  refine gm_callV (k0 := 11) [.int a1] (c_X11_isNobody a0 a1 μ) g2 rfl B_X11_isNobody gw_478 gs_11 rfl rfl rfl d_X11_dare_2 (gm_kI (fun x2 m1 => ?_))
  refine gm_if_eq (tgt := 10) d_X11_dare_5 (by decide) (fun h5 => ?_) (fun h5 => ?_)
  ·
    refine gm_aload_n d_X11_dare_10 rfl 0 rfl ?_
    refine gm_iload_n d_X11_dare_11 rfl 1 rfl ?_
    refine gm_grd (fun g12 => ?_)
    refine gm_callV (k0 := 11) [.int a1] (c_X11_holdsNow a0 a1 m1) g12 rfl B_X11_holdsNow gw_541 gs_13 rfl rfl rfl d_X11_dare_12 (gm_kI (fun x4 m3 => ?_))
    refine gm_istore_n (L' := [(2, .int x4), (0, .ref a0), (1, .int a1)]) d_X11_dare_15 rfl (Nat.le_of_ble_eq_true rfl) rfl ?_
    refine gm_iconst (v := 0) d_X11_dare_16 (by decide) ?_
    refine gm_istore_n (L' := [(3, .int (0 : Int32)), (2, .int x4), (0, .ref a0), (1, .int a1)]) d_X11_dare_17 rfl (Nat.le_of_ble_eq_true rfl) rfl ?_
    refine gm_iconst (v := 0) d_X11_dare_18 (by decide) ?_
    refine gm_istore (L' := [(4, .int (0 : Int32)), (3, .int (0 : Int32)), (2, .int x4), (0, .ref a0), (1, .int a1)]) d_X11_dare_19 (Nat.le_of_ble_eq_true rfl) rfl ?_
    refine gm_bipush (v := 9) d_X11_dare_21 (by decide) ?_
    refine gm_istore (L' := [(5, .int (9 : Int32)), (4, .int (0 : Int32)), (3, .int (0 : Int32)), (2, .int x4), (0, .ref a0), (1, .int a1)]) d_X11_dare_23 (Nat.le_of_ble_eq_true rfl) rfl ?_
    refine gm_sub (L' := [(0, .ref a0), (1, .int a1), (2, .int x4), (3, .int (0 : Int32)), (4, .int (0 : Int32)), (5, .int (9 : Int32))]) [4, 5, 3, 2, 1, 0] rfl ?_
    refine gm_lp (S := Int32 × Int32 × Int32 × gm_M) (fun _ => 0) (fun _ => 0) (fun s5 => s5.2.2.2) (fun s5 => [(0, .ref a0), (1, .int a1), (2, .int x4), (3, .int s5.1), (4, .int s5.2.1), (5, .int s5.2.2.1)]) (fun _ => []) (fun s5 => ?_) 5000 ((0 : Int32), (0 : Int32), (9 : Int32), m3)
    refine gm_iload d_X11_dare_25 5 rfl ?_
    refine gm_if_lt (tgt := 74) d_X11_dare_27 (by decide) (fun h27 => ?_) (fun h27 => ?_)
    ·
      refine gm_iload d_X11_dare_74 4 rfl ?_
      exact gm_iret rfl d_X11_dare_76 (Nat.le_of_ble_eq_true rfl) (Nat.le_of_ble_eq_true rfl) (fun h => h)
    ·
      refine gm_sipush (v := 999) d_X11_dare_30 (by decide) ?_
      refine gm_iload_n d_X11_dare_33 rfl 2 rfl ?_
      refine gm_iload d_X11_dare_34 5 rfl ?_
      refine gm_callS [.int x4, .int s5.2.2.1] (c_X11_thinned x4 s5.2.2.1 s5.2.2.2) B_X11_thinned gw_659 rfl rfl rfl d_X11_dare_36 (gm_kI (fun x7 m6 => ?_))
      refine gm_min gw_672 gw_310 gw_3 (show _ from gw_311) (Nat.le_of_ble_eq_true rfl) (Nat.le_of_ble_eq_true rfl) (Nat.le_of_ble_eq_true rfl) (Nat.le_of_ble_eq_true rfl) rfl d_X11_dare_39 ?_
      refine gm_istore (L' := [(6, .int (if x7 < (999 : Int32) then x7 else (999 : Int32))), (0, .ref a0), (1, .int a1), (2, .int x4), (3, .int s5.1), (4, .int s5.2.1), (5, .int s5.2.2.1)]) d_X11_dare_42 (Nat.le_of_ble_eq_true rfl) rfl ?_
      refine gm_iload d_X11_dare_44 0 rfl ?_
      refine gm_iload_n d_X11_dare_46 rfl 3 rfl ?_
      refine gm_iload d_X11_dare_47 0 rfl ?_
      refine gm_callS [.int x4, .int (if x7 < (999 : Int32) then x7 else (999 : Int32))] (c_X11_thinsBearing x4 (if x7 < (999 : Int32) then x7 else (999 : Int32)) m6) B_X11_thinsBearing gw_653 rfl rfl rfl d_X11_dare_49 (gm_kI (fun x10 m9 => ?_))
      refine gm_imul d_X11_dare_52 ?_
      refine gm_istore (L' := [(7, .int ((if x7 < (999 : Int32) then x7 else (999 : Int32)) * x10)), (6, .int (if x7 < (999 : Int32) then x7 else (999 : Int32))), (0, .ref a0), (1, .int a1), (2, .int x4), (3, .int s5.1), (4, .int s5.2.1), (5, .int s5.2.2.1)]) d_X11_dare_53 (Nat.le_of_ble_eq_true rfl) rfl ?_
      refine gm_iload d_X11_dare_55 0 rfl ?_
      refine gm_iload_n d_X11_dare_57 rfl 5 rfl ?_
      refine gm_join (S := Int32 × Int32) (pj := 68) (kj := 0) (nj := 0) (fun s11 => m9) (fun s11 => [(0, .ref a0), (1, .int a1), (2, .int x4), (3, .int s11.1), (4, .int s11.2), (5, .int s5.2.2.1), (6, .int (if x7 < (999 : Int32) then x7 else (999 : Int32))), (7, .int ((if x7 < (999 : Int32) then x7 else (999 : Int32)) * x10))]) (fun s11 => []) (fun s11 => ?_) (fun j12 hj12 => ?_)
      ·
        refine gm_iinc (v := s5.2.2.1 + (-1 : Int32)) (L' := [(5, .int (s5.2.2.1 + (-1 : Int32))), (0, .ref a0), (1, .int a1), (2, .int x4), (3, .int s11.1), (4, .int s11.2), (6, .int (if x7 < (999 : Int32) then x7 else (999 : Int32))), (7, .int ((if x7 < (999 : Int32) then x7 else (999 : Int32)) * x10))]) d_X11_dare_68 5 rfl rfl (Nat.le_of_ble_eq_true rfl) rfl ?_
        refine gm_goto (tgt := 25) d_X11_dare_71 (by decide) ?_
        refine gm_sub (L' := [(0, .ref a0), (1, .int a1), (2, .int x4), (3, .int s11.1), (4, .int s11.2), (5, .int (s5.2.2.1 + (-1 : Int32)))]) [1, 2, 3, 4, 5, 0] rfl ?_
        exact gm_back (fun h => h)
      ·
        refine gm_icmp_le (tgt := 68) d_X11_dare_58 (by decide) (fun h58 => ?_) (fun h58 => ?_)
        ·
          refine gm_sub (L' := [(0, .ref a0), (1, .int a1), (2, .int x4), (3, .int s5.1), (4, .int s5.2.1), (5, .int s5.2.2.1), (6, .int (if x7 < (999 : Int32) then x7 else (999 : Int32))), (7, .int ((if x7 < (999 : Int32) then x7 else (999 : Int32)) * x10))]) [2, 3, 4, 5, 6, 7, 1, 0] rfl ?_
          exact hj12 (s5.1, s5.2.1)
        ·
          refine gm_iload d_X11_dare_61 0 rfl ?_
          refine gm_istore_n (L' := [(3, .int ((if x7 < (999 : Int32) then x7 else (999 : Int32)) * x10)), (7, .int ((if x7 < (999 : Int32) then x7 else (999 : Int32)) * x10)), (6, .int (if x7 < (999 : Int32) then x7 else (999 : Int32))), (0, .ref a0), (1, .int a1), (2, .int x4), (4, .int s5.2.1), (5, .int s5.2.2.1)]) d_X11_dare_63 rfl (Nat.le_of_ble_eq_true rfl) rfl ?_
          refine gm_iload d_X11_dare_64 2 rfl ?_
          refine gm_istore (L' := [(4, .int (if x7 < (999 : Int32) then x7 else (999 : Int32))), (3, .int ((if x7 < (999 : Int32) then x7 else (999 : Int32)) * x10)), (7, .int ((if x7 < (999 : Int32) then x7 else (999 : Int32)) * x10)), (6, .int (if x7 < (999 : Int32) then x7 else (999 : Int32))), (0, .ref a0), (1, .int a1), (2, .int x4), (5, .int s5.2.2.1)]) d_X11_dare_66 (Nat.le_of_ble_eq_true rfl) rfl ?_
          refine gm_sub (L' := [(0, .ref a0), (1, .int a1), (2, .int x4), (3, .int ((if x7 < (999 : Int32) then x7 else (999 : Int32)) * x10)), (4, .int (if x7 < (999 : Int32) then x7 else (999 : Int32))), (5, .int s5.2.2.1), (6, .int (if x7 < (999 : Int32) then x7 else (999 : Int32))), (7, .int ((if x7 < (999 : Int32) then x7 else (999 : Int32)) * x10))]) [4, 5, 6, 1, 0, 7, 3, 2] rfl ?_
          exact hj12 (((if x7 < (999 : Int32) then x7 else (999 : Int32)) * x10), (if x7 < (999 : Int32) then x7 else (999 : Int32)))
  ·
    refine gm_iconst (v := -1) d_X11_dare_8 (by decide) ?_
    exact gm_iret rfl d_X11_dare_9 (Nat.le_of_ble_eq_true rfl) (Nat.le_of_ble_eq_true rfl) (fun h => h)
theorem d_X11_tryPlanRow_0 : decode prog_1_method_57_code 0 = .ok (.iload_n 1, 1) := ge_iload_n_1 (by decide +kernel)
theorem d_X11_tryPlanRow_1 : decode prog_1_method_57_code 1 = .ok (.iconst 1, 1) := ge_iconst_1 (by decide +kernel)
theorem d_X11_tryPlanRow_2 : decode prog_1_method_57_code 2 = .ok (.if_icmp .ne 58, 3) := ge_if_icmp_ne (by decide +kernel)
theorem d_X11_tryPlanRow_5 : decode prog_1_method_57_code 5 = .ok (.aload_n 0, 1) := ge_aload_n_0 (by decide +kernel)
theorem d_X11_tryPlanRow_6 : decode prog_1_method_57_code 6 = .ok (.getfield 72, 3) := ge_getfield (by decide +kernel)
theorem d_X11_tryPlanRow_9 : decode prog_1_method_57_code 9 = .ok (.bipush 6, 2) := ge_bipush (by decide +kernel)
theorem d_X11_tryPlanRow_11 : decode prog_1_method_57_code 11 = .ok (.aload_n 0, 1) := ge_aload_n_0 (by decide +kernel)
theorem d_X11_tryPlanRow_12 : decode prog_1_method_57_code 12 = .ok (.getfield 72, 3) := ge_getfield (by decide +kernel)
theorem d_X11_tryPlanRow_15 : decode prog_1_method_57_code 15 = .ok (.getfield 129, 3) := ge_getfield (by decide +kernel)
theorem d_X11_tryPlanRow_18 : decode prog_1_method_57_code 18 = .ok (.iconst 1, 1) := ge_iconst_1 (by decide +kernel)
theorem d_X11_tryPlanRow_19 : decode prog_1_method_57_code 19 = .ok (.iadd, 1) := ge_iadd (by decide +kernel)
theorem d_X11_tryPlanRow_20 : decode prog_1_method_57_code 20 = .ok (.invokestatic 214, 3) := ge_invokestatic (by decide +kernel)
theorem d_X11_tryPlanRow_23 : decode prog_1_method_57_code 23 = .ok (.putfield 129, 3) := ge_putfield (by decide +kernel)
theorem d_X11_tryPlanRow_26 : decode prog_1_method_57_code 26 = .ok (.aload_n 0, 1) := ge_aload_n_0 (by decide +kernel)
theorem d_X11_tryPlanRow_27 : decode prog_1_method_57_code 27 = .ok (.getfield 72, 3) := ge_getfield (by decide +kernel)
theorem d_X11_tryPlanRow_30 : decode prog_1_method_57_code 30 = .ok (.sipush 999, 3) := ge_sipush (by decide +kernel)
theorem d_X11_tryPlanRow_33 : decode prog_1_method_57_code 33 = .ok (.aload_n 0, 1) := ge_aload_n_0 (by decide +kernel)
theorem d_X11_tryPlanRow_34 : decode prog_1_method_57_code 34 = .ok (.getfield 72, 3) := ge_getfield (by decide +kernel)
theorem d_X11_tryPlanRow_37 : decode prog_1_method_57_code 37 = .ok (.getfield 132, 3) := ge_getfield (by decide +kernel)
theorem d_X11_tryPlanRow_40 : decode prog_1_method_57_code 40 = .ok (.aload_n 0, 1) := ge_aload_n_0 (by decide +kernel)
theorem d_X11_tryPlanRow_41 : decode prog_1_method_57_code 41 = .ok (.getfield 60, 3) := ge_getfield (by decide +kernel)
theorem d_X11_tryPlanRow_44 : decode prog_1_method_57_code 44 = .ok (.getfield 97, 3) := ge_getfield (by decide +kernel)
theorem d_X11_tryPlanRow_47 : decode prog_1_method_57_code 47 = .ok (.getfield 108, 3) := ge_getfield (by decide +kernel)
theorem d_X11_tryPlanRow_50 : decode prog_1_method_57_code 50 = .ok (.iadd, 1) := ge_iadd (by decide +kernel)
theorem d_X11_tryPlanRow_51 : decode prog_1_method_57_code 51 = .ok (.invokestatic 214, 3) := ge_invokestatic (by decide +kernel)
theorem d_X11_tryPlanRow_54 : decode prog_1_method_57_code 54 = .ok (.putfield 132, 3) := ge_putfield (by decide +kernel)
theorem d_X11_tryPlanRow_57 : decode prog_1_method_57_code 57 = .ok (.goto 60, 3) := ge_goto (by decide +kernel)
theorem d_X11_tryPlanRow_60 : decode prog_1_method_57_code 60 = .ok (.iload_n 1, 1) := ge_iload_n_1 (by decide +kernel)
theorem d_X11_tryPlanRow_61 : decode prog_1_method_57_code 61 = .ok (.iconst 2, 1) := ge_iconst_2 (by decide +kernel)
theorem d_X11_tryPlanRow_62 : decode prog_1_method_57_code 62 = .ok (.if_icmp .ne 30, 3) := ge_if_icmp_ne (by decide +kernel)
theorem d_X11_tryPlanRow_65 : decode prog_1_method_57_code 65 = .ok (.aload_n 0, 1) := ge_aload_n_0 (by decide +kernel)
theorem d_X11_tryPlanRow_66 : decode prog_1_method_57_code 66 = .ok (.getfield 72, 3) := ge_getfield (by decide +kernel)
theorem d_X11_tryPlanRow_69 : decode prog_1_method_57_code 69 = .ok (.iconst 0, 1) := ge_iconst_0 (by decide +kernel)
theorem d_X11_tryPlanRow_70 : decode prog_1_method_57_code 70 = .ok (.putfield 129, 3) := ge_putfield (by decide +kernel)
theorem d_X11_tryPlanRow_73 : decode prog_1_method_57_code 73 = .ok (.aload_n 0, 1) := ge_aload_n_0 (by decide +kernel)
theorem d_X11_tryPlanRow_74 : decode prog_1_method_57_code 74 = .ok (.getfield 72, 3) := ge_getfield (by decide +kernel)
theorem d_X11_tryPlanRow_77 : decode prog_1_method_57_code 77 = .ok (.iconst 0, 1) := ge_iconst_0 (by decide +kernel)
theorem d_X11_tryPlanRow_78 : decode prog_1_method_57_code 78 = .ok (.putfield 132, 3) := ge_putfield (by decide +kernel)
theorem d_X11_tryPlanRow_81 : decode prog_1_method_57_code 81 = .ok (.aload_n 0, 1) := ge_aload_n_0 (by decide +kernel)
theorem d_X11_tryPlanRow_82 : decode prog_1_method_57_code 82 = .ok (.getfield 72, 3) := ge_getfield (by decide +kernel)
theorem d_X11_tryPlanRow_85 : decode prog_1_method_57_code 85 = .ok (.iconst 0, 1) := ge_iconst_0 (by decide +kernel)
theorem d_X11_tryPlanRow_86 : decode prog_1_method_57_code 86 = .ok (.putfield 138, 3) := ge_putfield (by decide +kernel)
theorem d_X11_tryPlanRow_89 : decode prog_1_method_57_code 89 = .ok (.goto 28, 3) := ge_goto (by decide +kernel)
theorem d_X11_tryPlanRow_92 : decode prog_1_method_57_code 92 = .ok (.aload_n 0, 1) := ge_aload_n_0 (by decide +kernel)
theorem d_X11_tryPlanRow_93 : decode prog_1_method_57_code 93 = .ok (.getfield 72, 3) := ge_getfield (by decide +kernel)
theorem d_X11_tryPlanRow_96 : decode prog_1_method_57_code 96 = .ok (.bipush 10, 2) := ge_bipush (by decide +kernel)
theorem d_X11_tryPlanRow_98 : decode prog_1_method_57_code 98 = .ok (.aload_n 0, 1) := ge_aload_n_0 (by decide +kernel)
theorem d_X11_tryPlanRow_99 : decode prog_1_method_57_code 99 = .ok (.getfield 72, 3) := ge_getfield (by decide +kernel)
theorem d_X11_tryPlanRow_102 : decode prog_1_method_57_code 102 = .ok (.aload_n 0, 1) := ge_aload_n_0 (by decide +kernel)
theorem d_X11_tryPlanRow_103 : decode prog_1_method_57_code 103 = .ok (.getfield 60, 3) := ge_getfield (by decide +kernel)
theorem d_X11_tryPlanRow_106 : decode prog_1_method_57_code 106 = .ok (.getfield 97, 3) := ge_getfield (by decide +kernel)
theorem d_X11_tryPlanRow_109 : decode prog_1_method_57_code 109 = .ok (.iload_n 2, 1) := ge_iload_n_2 (by decide +kernel)
theorem d_X11_tryPlanRow_110 : decode prog_1_method_57_code 110 = .ok (.invokevirtual 193, 3) := ge_invokevirtual (by decide +kernel)
theorem d_X11_tryPlanRow_113 : decode prog_1_method_57_code 113 = .ok (.invokevirtual 175, 3) := ge_invokevirtual (by decide +kernel)
theorem d_X11_tryPlanRow_116 : decode prog_1_method_57_code 116 = .ok (.pop, 1) := ge_pop (by decide +kernel)
theorem d_X11_tryPlanRow_117 : decode prog_1_method_57_code 117 = .ok (.return_, 1) := ge_return_ (by decide +kernel)
def f_X11_tryPlanRow (a0 : Nat) (a1 : Int32) (a2 : Int32) (μ : gm_M) : Option (Option Value × gm_M) := if a1 ≠ (1 : Int32) then if a1 ≠ (2 : Int32) then gm_gR μ [16] a0 5 (fun v1 => gm_gR μ [16] a0 5 (fun v2 => gm_gR μ [16] a0 1 (fun v3 => gm_gR μ [13] v3 6 (fun v4 => if gm_tag μ v2 = 7 then gm_bI (f_X2_holds v2 v4 a2 μ) (fun x6 m5 => if gm_tag m5 v1 = 7 then gm_bI (f_X2_breathe v1 (10 : Int32) x6 m5) (fun x8 m7 => some (none, m7)) else none) else none)))) else gm_gR μ [16] a0 5 (fun v9 => gm_pI μ [7] v9 3 (0 : Int32) (fun m10 => gm_gR m10 [16] a0 5 (fun v11 => gm_pI m10 [7] v11 4 (0 : Int32) (fun m12 => gm_gR m12 [16] a0 5 (fun v13 => gm_pI m12 [7] v13 6 (0 : Int32) (fun m14 => some (none, m14))))))) else gm_gR μ [16] a0 5 (fun v15 => gm_gR μ [16] a0 5 (fun v16 => gm_gI μ [7] v16 3 (fun v17 => gm_pI μ [7] v15 3 (if (v17 + (1 : Int32)) < (6 : Int32) then (v17 + (1 : Int32)) else (6 : Int32)) (fun m19 => gm_gR m19 [16] a0 5 (fun v20 => gm_gR m19 [16] a0 5 (fun v21 => gm_gI m19 [7] v21 4 (fun v22 => gm_gR m19 [16] a0 1 (fun v23 => gm_gR m19 [13] v23 6 (fun v24 => gm_gI m19 [5] v24 1 (fun v25 => gm_pI m19 [7] v20 4 (if (v22 + v25) < (999 : Int32) then (v22 + v25) else (999 : Int32)) (fun m27 => some (none, m27))))))))))))
set_option maxHeartbeats 4000000 in
theorem c_X11_tryPlanRow (a0 : Nat) (a1 : Int32) (a2 : Int32) (μ : gm_M) : gm_Call ({ cls := "GumBubble", name := "tryPlanRow", desc := "(II)V" } : Jvm.MethodName) prog_1_method_57_code 3 none 4 0 0 [.ref a0, .int a1, .int a2] μ (f_X11_tryPlanRow a0 a1 a2 μ) := by
  refine gm_start PN_11 (Nat.le_of_ble_eq_true rfl) (fun res μe => ?_)
  unfold f_X11_tryPlanRow
  show gm_A "GumBubble" (gm_nm "tryPlanRow") _ _ _ _ _ _ _ _ _ 0 [(0, .ref a0), (1, .int a1), (2, .int a2)] [] _ _
  refine gm_iload_n d_X11_tryPlanRow_0 rfl 1 rfl ?_
  refine gm_iconst (v := 1) d_X11_tryPlanRow_1 (by decide) ?_
  refine gm_icmp_ne (tgt := 60) d_X11_tryPlanRow_2 (by decide) (fun h2 => ?_) (fun h2 => ?_)
  ·
    refine gm_iload_n d_X11_tryPlanRow_60 rfl 1 rfl ?_
    refine gm_iconst (v := 2) d_X11_tryPlanRow_61 (by decide) ?_
    refine gm_icmp_ne (tgt := 92) d_X11_tryPlanRow_62 (by decide) (fun h62 => ?_) (fun h62 => ?_)
    ·
      refine gm_aload_n d_X11_tryPlanRow_92 rfl 0 rfl ?_
      refine gm_getR F_11_trial gw_266 d_X11_tryPlanRow_93 (fun v1 _ => ?_)
      refine gm_bipush (v := 10) d_X11_tryPlanRow_96 (by decide) ?_
      refine gm_aload_n d_X11_tryPlanRow_98 rfl 0 rfl ?_
      refine gm_getR F_11_trial gw_266 d_X11_tryPlanRow_99 (fun v2 _ => ?_)
      refine gm_aload_n d_X11_tryPlanRow_102 rfl 0 rfl ?_
      refine gm_getR F_11_now gw_262 d_X11_tryPlanRow_103 (fun v3 _ => ?_)
      refine gm_getR F_8_afternoon gw_231 d_X11_tryPlanRow_106 (fun v4 _ => ?_)
      refine gm_iload_n d_X11_tryPlanRow_109 rfl 2 rfl ?_
      refine gm_grd (fun g110 => ?_)
      refine gm_callV (k0 := 2) [.ref v4, .int a2] (c_X2_holds v2 v4 a2 μ) g110 rfl B_X2_holds gw_545 gw_547 rfl rfl rfl d_X11_tryPlanRow_110 (gm_kI (fun x6 m5 => ?_))
      refine gm_grd (fun g113 => ?_)
      refine gm_callV (k0 := 2) [.int (10 : Int32), .int x6] (c_X2_breathe v1 (10 : Int32) x6 m5) g113 rfl B_X2_breathe gw_611 gw_613 rfl rfl rfl d_X11_tryPlanRow_113 (gm_kI (fun x8 m7 => ?_))
      refine gm_pop d_X11_tryPlanRow_116 rfl ?_
      exact gm_vret rfl d_X11_tryPlanRow_117 (Nat.le_of_ble_eq_true rfl) (Nat.le_of_ble_eq_true rfl) (fun h => h)
    ·
      refine gm_aload_n d_X11_tryPlanRow_65 rfl 0 rfl ?_
      refine gm_getR F_11_trial gw_266 d_X11_tryPlanRow_66 (fun v9 _ => ?_)
      refine gm_iconst (v := 0) d_X11_tryPlanRow_69 (by decide) ?_
      refine gm_putI F_2_pieces (Or.inl rfl) gw_185 d_X11_tryPlanRow_70 (fun m10 _ => ?_)
      refine gm_aload_n d_X11_tryPlanRow_73 rfl 0 rfl ?_
      refine gm_getR F_11_trial gw_266 d_X11_tryPlanRow_74 (fun v11 _ => ?_)
      refine gm_iconst (v := 0) d_X11_tryPlanRow_77 (by decide) ?_
      refine gm_putI F_2_sugar (Or.inl rfl) gw_188 d_X11_tryPlanRow_78 (fun m12 _ => ?_)
      refine gm_aload_n d_X11_tryPlanRow_81 rfl 0 rfl ?_
      refine gm_getR F_11_trial gw_266 d_X11_tryPlanRow_82 (fun v13 _ => ?_)
      refine gm_iconst (v := 0) d_X11_tryPlanRow_85 (by decide) ?_
      refine gm_putI F_2_bubble (Or.inl rfl) gw_193 d_X11_tryPlanRow_86 (fun m14 _ => ?_)
      refine gm_goto (tgt := 117) d_X11_tryPlanRow_89 (by decide) ?_
      exact gm_vret rfl d_X11_tryPlanRow_117 (Nat.le_of_ble_eq_true rfl) (Nat.le_of_ble_eq_true rfl) (fun h => h)
  ·
    refine gm_aload_n d_X11_tryPlanRow_5 rfl 0 rfl ?_
    refine gm_getR F_11_trial gw_266 d_X11_tryPlanRow_6 (fun v15 _ => ?_)
    refine gm_bipush (v := 6) d_X11_tryPlanRow_9 (by decide) ?_
    refine gm_aload_n d_X11_tryPlanRow_11 rfl 0 rfl ?_
    refine gm_getR F_11_trial gw_266 d_X11_tryPlanRow_12 (fun v16 _ => ?_)
    refine gm_getI F_2_pieces gw_185 d_X11_tryPlanRow_15 (fun v17 _ => ?_)
    refine gm_iconst (v := 1) d_X11_tryPlanRow_18 (by decide) ?_
    refine gm_iadd d_X11_tryPlanRow_19 ?_
    refine gm_min gw_672 gw_310 gw_3 (show _ from gw_311) (Nat.le_of_ble_eq_true rfl) (Nat.le_of_ble_eq_true rfl) (Nat.le_of_ble_eq_true rfl) (Nat.le_of_ble_eq_true rfl) rfl d_X11_tryPlanRow_20 ?_
    refine gm_putI F_2_pieces (Or.inl rfl) gw_185 d_X11_tryPlanRow_23 (fun m19 _ => ?_)
    refine gm_aload_n d_X11_tryPlanRow_26 rfl 0 rfl ?_
    refine gm_getR F_11_trial gw_266 d_X11_tryPlanRow_27 (fun v20 _ => ?_)
    refine gm_sipush (v := 999) d_X11_tryPlanRow_30 (by decide) ?_
    refine gm_aload_n d_X11_tryPlanRow_33 rfl 0 rfl ?_
    refine gm_getR F_11_trial gw_266 d_X11_tryPlanRow_34 (fun v21 _ => ?_)
    refine gm_getI F_2_sugar gw_188 d_X11_tryPlanRow_37 (fun v22 _ => ?_)
    refine gm_aload_n d_X11_tryPlanRow_40 rfl 0 rfl ?_
    refine gm_getR F_11_now gw_262 d_X11_tryPlanRow_41 (fun v23 _ => ?_)
    refine gm_getR F_8_afternoon gw_231 d_X11_tryPlanRow_44 (fun v24 _ => ?_)
    refine gm_getI F_0_sweet gw_129 d_X11_tryPlanRow_47 (fun v25 _ => ?_)
    refine gm_iadd d_X11_tryPlanRow_50 ?_
    refine gm_min gw_672 gw_310 gw_3 (show _ from gw_311) (Nat.le_of_ble_eq_true rfl) (Nat.le_of_ble_eq_true rfl) (Nat.le_of_ble_eq_true rfl) (Nat.le_of_ble_eq_true rfl) rfl d_X11_tryPlanRow_51 ?_
    refine gm_putI F_2_sugar (Or.inl rfl) gw_188 d_X11_tryPlanRow_54 (fun m27 _ => ?_)
    refine gm_goto (tgt := 117) d_X11_tryPlanRow_57 (by decide) ?_
    exact gm_vret rfl d_X11_tryPlanRow_117 (Nat.le_of_ble_eq_true rfl) (Nat.le_of_ble_eq_true rfl) (fun h => h)
theorem d_X1_jawTired_0 : decode prog_3_method_3_code 0 = .ok (.aload_n 1, 1) := ge_aload_n_1 (by decide +kernel)
theorem d_X1_jawTired_1 : decode prog_3_method_3_code 1 = .ok (.getfield 11, 3) := ge_getfield (by decide +kernel)
theorem d_X1_jawTired_4 : decode prog_3_method_3_code 4 = .ok (.iconst 2, 1) := ge_iconst_2 (by decide +kernel)
theorem d_X1_jawTired_5 : decode prog_3_method_3_code 5 = .ok (.idiv, 1) := ge_idiv (by decide +kernel)
theorem d_X1_jawTired_6 : decode prog_3_method_3_code 6 = .ok (.ireturn, 1) := ge_ireturn (by decide +kernel)
def f_X1_jawTired (a0 : Nat) (a1 : Nat) (μ : gm_M) : Option (Option Value × gm_M) := gm_gI μ [7] a1 3 (fun v1 => if (2 : Int32) = 0 then none else some (some (.int (v1 / (2 : Int32))), μ))
set_option maxHeartbeats 4000000 in
theorem c_X1_jawTired (a0 : Nat) (a1 : Nat) (μ : gm_M) : gm_Call ({ cls := "GumBubble$Careful", name := "jawTired", desc := "(LGumBubble$Child;)I" } : Jvm.MethodName) prog_3_method_3_code 2 (some .int) 0 0 0 [.ref a0, .ref a1] μ (f_X1_jawTired a0 a1 μ) := by
  refine gm_start PN_1 (Nat.le_of_ble_eq_true rfl) (fun res μe => ?_)
  unfold f_X1_jawTired
  show gm_A "GumBubble$Careful" (gm_nm "jawTired") _ _ _ _ _ _ _ _ _ 0 [(0, .ref a0), (1, .ref a1)] [] _ _
  refine gm_aload_n d_X1_jawTired_0 rfl 1 rfl ?_
  refine gm_getI F_2_pieces gw_182 d_X1_jawTired_1 (fun v1 _ => ?_)
  refine gm_iconst (v := 2) d_X1_jawTired_4 (by decide) ?_
  refine gm_idiv d_X1_jawTired_5 ?_
  exact gm_iret rfl d_X1_jawTired_6 (Nat.le_of_ble_eq_true rfl) (Nat.le_of_ble_eq_true rfl) (fun h => h)
theorem d_X9_sugarChewed_0 : decode prog_11_method_2_code 0 = .ok (.aload_n 0, 1) := ge_aload_n_0 (by decide +kernel)
theorem d_X9_sugarChewed_1 : decode prog_11_method_2_code 1 = .ok (.aload_n 1, 1) := ge_aload_n_1 (by decide +kernel)
theorem d_X9_sugarChewed_2 : decode prog_11_method_2_code 2 = .ok (.iload_n 2, 1) := ge_iload_n_2 (by decide +kernel)
theorem d_X9_sugarChewed_3 : decode prog_11_method_2_code 3 = .ok (.invokespecial 7, 3) := ge_invokespecial (by decide +kernel)
theorem d_X9_sugarChewed_6 : decode prog_11_method_2_code 6 = .ok (.iconst 2, 1) := ge_iconst_2 (by decide +kernel)
theorem d_X9_sugarChewed_7 : decode prog_11_method_2_code 7 = .ok (.idiv, 1) := ge_idiv (by decide +kernel)
theorem d_X9_sugarChewed_8 : decode prog_11_method_2_code 8 = .ok (.ireturn, 1) := ge_ireturn (by decide +kernel)
def f_X9_sugarChewed (a0 : Nat) (a1 : Nat) (a2 : Int32) (μ : gm_M) : Option (Option Value × gm_M) := if List.contains [6, 14] (gm_tag μ a0) = true then gm_bI (f_X5_sugarChewed a0 a1 a2 μ) (fun x2 m1 => if (2 : Int32) = 0 then none else some (some (.int (x2 / (2 : Int32))), m1)) else none
set_option maxHeartbeats 4000000 in
theorem c_X9_sugarChewed (a0 : Nat) (a1 : Nat) (a2 : Int32) (μ : gm_M) : gm_Call ({ cls := "GumBubble$Slow", name := "sugarChewed", desc := "(LGumBubble$Child;I)I" } : Jvm.MethodName) prog_11_method_2_code 3 (some .int) 1 0 0 [.ref a0, .ref a1, .int a2] μ (f_X9_sugarChewed a0 a1 a2 μ) := by
  refine gm_start PN_9 (Nat.le_of_ble_eq_true rfl) (fun res μe => ?_)
  unfold f_X9_sugarChewed
  show gm_A "GumBubble$Slow" (gm_nm "sugarChewed") _ _ _ _ _ _ _ _ _ 0 [(0, .ref a0), (1, .ref a1), (2, .int a2)] [] _ _
  refine gm_aload_n d_X9_sugarChewed_0 rfl 0 rfl ?_
  refine gm_aload_n d_X9_sugarChewed_1 rfl 1 rfl ?_
  refine gm_iload_n d_X9_sugarChewed_2 rfl 2 rfl ?_
  refine gm_grd (fun g3 => ?_)
  refine gm_callSU [.ref a1, .int a2] (c_X5_sugarChewed a0 a1 a2 μ) g3 Any_9 (by decide) B_X5_sugarChewed gw_504 gw_497 gw_78 rfl rfl rfl d_X9_sugarChewed_3 (gm_kI (fun x2 m1 => ?_))
  refine gm_iconst (v := 2) d_X9_sugarChewed_6 (by decide) ?_
  refine gm_idiv d_X9_sugarChewed_7 ?_
  exact gm_iret rfl d_X9_sugarChewed_8 (Nat.le_of_ble_eq_true rfl) (Nat.le_of_ble_eq_true rfl) (fun h => h)
theorem d_X1_sugarChewed_0 : decode prog_3_method_2_code 0 = .ok (.aload_n 0, 1) := ge_aload_n_0 (by decide +kernel)
theorem d_X1_sugarChewed_1 : decode prog_3_method_2_code 1 = .ok (.aload_n 1, 1) := ge_aload_n_1 (by decide +kernel)
theorem d_X1_sugarChewed_2 : decode prog_3_method_2_code 2 = .ok (.iload_n 2, 1) := ge_iload_n_2 (by decide +kernel)
theorem d_X1_sugarChewed_3 : decode prog_3_method_2_code 3 = .ok (.invokespecial 7, 3) := ge_invokespecial (by decide +kernel)
theorem d_X1_sugarChewed_6 : decode prog_3_method_2_code 6 = .ok (.iconst 1, 1) := ge_iconst_1 (by decide +kernel)
theorem d_X1_sugarChewed_7 : decode prog_3_method_2_code 7 = .ok (.iadd, 1) := ge_iadd (by decide +kernel)
theorem d_X1_sugarChewed_8 : decode prog_3_method_2_code 8 = .ok (.ireturn, 1) := ge_ireturn (by decide +kernel)
def f_X1_sugarChewed (a0 : Nat) (a1 : Nat) (a2 : Int32) (μ : gm_M) : Option (Option Value × gm_M) := if List.contains [6] (gm_tag μ a0) = true then gm_bI (f_X9_sugarChewed a0 a1 a2 μ) (fun x2 m1 => some (some (.int (x2 + (1 : Int32))), m1)) else none
set_option maxHeartbeats 4000000 in
theorem c_X1_sugarChewed (a0 : Nat) (a1 : Nat) (a2 : Int32) (μ : gm_M) : gm_Call ({ cls := "GumBubble$Careful", name := "sugarChewed", desc := "(LGumBubble$Child;I)I" } : Jvm.MethodName) prog_3_method_2_code 3 (some .int) 2 0 0 [.ref a0, .ref a1, .int a2] μ (f_X1_sugarChewed a0 a1 a2 μ) := by
  refine gm_start PN_1 (Nat.le_of_ble_eq_true rfl) (fun res μe => ?_)
  unfold f_X1_sugarChewed
  show gm_A "GumBubble$Careful" (gm_nm "sugarChewed") _ _ _ _ _ _ _ _ _ 0 [(0, .ref a0), (1, .ref a1), (2, .int a2)] [] _ _
  refine gm_aload_n d_X1_sugarChewed_0 rfl 0 rfl ?_
  refine gm_aload_n d_X1_sugarChewed_1 rfl 1 rfl ?_
  refine gm_iload_n d_X1_sugarChewed_2 rfl 2 rfl ?_
  refine gm_grd (fun g3 => ?_)
  refine gm_callSU [.ref a1, .int a2] (c_X9_sugarChewed a0 a1 a2 μ) g3 Any_1 (by decide) B_X9_sugarChewed gw_501 gw_1325 gw_102 rfl rfl rfl d_X1_sugarChewed_3 (gm_kI (fun x2 m1 => ?_))
  refine gm_iconst (v := 1) d_X1_sugarChewed_6 (by decide) ?_
  refine gm_iadd d_X1_sugarChewed_7 ?_
  exact gm_iret rfl d_X1_sugarChewed_8 (Nat.le_of_ble_eq_true rfl) (Nat.le_of_ble_eq_true rfl) (fun h => h)
theorem d_X3_jawTired_0 : decode prog_5_method_3_code 0 = .ok (.iconst 2, 1) := ge_iconst_2 (by decide +kernel)
theorem d_X3_jawTired_1 : decode prog_5_method_3_code 1 = .ok (.aload_n 1, 1) := ge_aload_n_1 (by decide +kernel)
theorem d_X3_jawTired_2 : decode prog_5_method_3_code 2 = .ok (.getfield 17, 3) := ge_getfield (by decide +kernel)
theorem d_X3_jawTired_5 : decode prog_5_method_3_code 5 = .ok (.imul, 1) := ge_imul (by decide +kernel)
theorem d_X3_jawTired_6 : decode prog_5_method_3_code 6 = .ok (.ireturn, 1) := ge_ireturn (by decide +kernel)
def f_X3_jawTired (a0 : Nat) (a1 : Nat) (μ : gm_M) : Option (Option Value × gm_M) := gm_gI μ [7] a1 3 (fun v1 => some (some (.int ((2 : Int32) * v1)), μ))
set_option maxHeartbeats 4000000 in
theorem c_X3_jawTired (a0 : Nat) (a1 : Nat) (μ : gm_M) : gm_Call ({ cls := "GumBubble$Cold", name := "jawTired", desc := "(LGumBubble$Child;)I" } : Jvm.MethodName) prog_5_method_3_code 2 (some .int) 0 0 0 [.ref a0, .ref a1] μ (f_X3_jawTired a0 a1 μ) := by
  refine gm_start PN_3 (Nat.le_of_ble_eq_true rfl) (fun res μe => ?_)
  unfold f_X3_jawTired
  show gm_A "GumBubble$Cold" (gm_nm "jawTired") _ _ _ _ _ _ _ _ _ 0 [(0, .ref a0), (1, .ref a1)] [] _ _
  refine gm_iconst (v := 2) d_X3_jawTired_0 (by decide) ?_
  refine gm_aload_n d_X3_jawTired_1 rfl 1 rfl ?_
  refine gm_getI F_2_pieces gw_184 d_X3_jawTired_2 (fun v1 _ => ?_)
  refine gm_imul d_X3_jawTired_5 ?_
  exact gm_iret rfl d_X3_jawTired_6 (Nat.le_of_ble_eq_true rfl) (Nat.le_of_ble_eq_true rfl) (fun h => h)
theorem d_X6_sugarChewed_0 : decode prog_8_method_2_code 0 = .ok (.iconst 2, 1) := ge_iconst_2 (by decide +kernel)
theorem d_X6_sugarChewed_1 : decode prog_8_method_2_code 1 = .ok (.aload_n 0, 1) := ge_aload_n_0 (by decide +kernel)
theorem d_X6_sugarChewed_2 : decode prog_8_method_2_code 2 = .ok (.aload_n 1, 1) := ge_aload_n_1 (by decide +kernel)
theorem d_X6_sugarChewed_3 : decode prog_8_method_2_code 3 = .ok (.iload_n 2, 1) := ge_iload_n_2 (by decide +kernel)
theorem d_X6_sugarChewed_4 : decode prog_8_method_2_code 4 = .ok (.invokespecial 7, 3) := ge_invokespecial (by decide +kernel)
theorem d_X6_sugarChewed_7 : decode prog_8_method_2_code 7 = .ok (.imul, 1) := ge_imul (by decide +kernel)
theorem d_X6_sugarChewed_8 : decode prog_8_method_2_code 8 = .ok (.ireturn, 1) := ge_ireturn (by decide +kernel)
def f_X6_sugarChewed (a0 : Nat) (a1 : Nat) (a2 : Int32) (μ : gm_M) : Option (Option Value × gm_M) := if List.contains [9, 11] (gm_tag μ a0) = true then gm_bI (f_X5_sugarChewed a0 a1 a2 μ) (fun x2 m1 => some (some (.int ((2 : Int32) * x2)), m1)) else none
set_option maxHeartbeats 4000000 in
theorem c_X6_sugarChewed (a0 : Nat) (a1 : Nat) (a2 : Int32) (μ : gm_M) : gm_Call ({ cls := "GumBubble$Quick", name := "sugarChewed", desc := "(LGumBubble$Child;I)I" } : Jvm.MethodName) prog_8_method_2_code 3 (some .int) 1 0 0 [.ref a0, .ref a1, .int a2] μ (f_X6_sugarChewed a0 a1 a2 μ) := by
  refine gm_start PN_6 (Nat.le_of_ble_eq_true rfl) (fun res μe => ?_)
  unfold f_X6_sugarChewed
  show gm_A "GumBubble$Quick" (gm_nm "sugarChewed") _ _ _ _ _ _ _ _ _ 0 [(0, .ref a0), (1, .ref a1), (2, .int a2)] [] _ _
  refine gm_iconst (v := 2) d_X6_sugarChewed_0 (by decide) ?_
  refine gm_aload_n d_X6_sugarChewed_1 rfl 0 rfl ?_
  refine gm_aload_n d_X6_sugarChewed_2 rfl 1 rfl ?_
  refine gm_iload_n d_X6_sugarChewed_3 rfl 2 rfl ?_
  refine gm_grd (fun g4 => ?_)
  refine gm_callSU [.ref a1, .int a2] (c_X5_sugarChewed a0 a1 a2 μ) g4 Any_6 (by decide) B_X5_sugarChewed gw_516 gw_497 gw_70 rfl rfl rfl d_X6_sugarChewed_4 (gm_kI (fun x2 m1 => ?_))
  refine gm_imul d_X6_sugarChewed_7 ?_
  exact gm_iret rfl d_X6_sugarChewed_8 (Nat.le_of_ble_eq_true rfl) (Nat.le_of_ble_eq_true rfl) (fun h => h)
theorem d_X4_sugarChewed_0 : decode prog_6_method_2_code 0 = .ok (.aload_n 0, 1) := ge_aload_n_0 (by decide +kernel)
theorem d_X4_sugarChewed_1 : decode prog_6_method_2_code 1 = .ok (.aload_n 1, 1) := ge_aload_n_1 (by decide +kernel)
theorem d_X4_sugarChewed_2 : decode prog_6_method_2_code 2 = .ok (.iload_n 2, 1) := ge_iload_n_2 (by decide +kernel)
theorem d_X4_sugarChewed_3 : decode prog_6_method_2_code 3 = .ok (.invokespecial 7, 3) := ge_invokespecial (by decide +kernel)
theorem d_X4_sugarChewed_6 : decode prog_6_method_2_code 6 = .ok (.aload_n 1, 1) := ge_aload_n_1 (by decide +kernel)
theorem d_X4_sugarChewed_7 : decode prog_6_method_2_code 7 = .ok (.getfield 11, 3) := ge_getfield (by decide +kernel)
theorem d_X4_sugarChewed_10 : decode prog_6_method_2_code 10 = .ok (.iadd, 1) := ge_iadd (by decide +kernel)
theorem d_X4_sugarChewed_11 : decode prog_6_method_2_code 11 = .ok (.ireturn, 1) := ge_ireturn (by decide +kernel)
def f_X4_sugarChewed (a0 : Nat) (a1 : Nat) (a2 : Int32) (μ : gm_M) : Option (Option Value × gm_M) := if List.contains [9] (gm_tag μ a0) = true then gm_bI (f_X6_sugarChewed a0 a1 a2 μ) (fun x2 m1 => gm_gI m1 [7] a1 3 (fun v3 => some (some (.int (x2 + v3)), m1))) else none
set_option maxHeartbeats 4000000 in
theorem c_X4_sugarChewed (a0 : Nat) (a1 : Nat) (a2 : Int32) (μ : gm_M) : gm_Call ({ cls := "GumBubble$Greedy", name := "sugarChewed", desc := "(LGumBubble$Child;I)I" } : Jvm.MethodName) prog_6_method_2_code 3 (some .int) 2 0 0 [.ref a0, .ref a1, .int a2] μ (f_X4_sugarChewed a0 a1 a2 μ) := by
  refine gm_start PN_4 (Nat.le_of_ble_eq_true rfl) (fun res μe => ?_)
  unfold f_X4_sugarChewed
  show gm_A "GumBubble$Greedy" (gm_nm "sugarChewed") _ _ _ _ _ _ _ _ _ 0 [(0, .ref a0), (1, .ref a1), (2, .int a2)] [] _ _
  refine gm_aload_n d_X4_sugarChewed_0 rfl 0 rfl ?_
  refine gm_aload_n d_X4_sugarChewed_1 rfl 1 rfl ?_
  refine gm_iload_n d_X4_sugarChewed_2 rfl 2 rfl ?_
  refine gm_grd (fun g3 => ?_)
  refine gm_callSU [.ref a1, .int a2] (c_X6_sugarChewed a0 a1 a2 μ) g3 Any_4 (by decide) B_X6_sugarChewed gw_513 gw_1326 gw_94 rfl rfl rfl d_X4_sugarChewed_3 (gm_kI (fun x2 m1 => ?_))
  refine gm_aload_n d_X4_sugarChewed_6 rfl 1 rfl ?_
  refine gm_getI F_2_pieces gw_179 d_X4_sugarChewed_7 (fun v3 _ => ?_)
  refine gm_iadd d_X4_sugarChewed_10 ?_
  exact gm_iret rfl d_X4_sugarChewed_11 (Nat.le_of_ble_eq_true rfl) (Nat.le_of_ble_eq_true rfl) (fun h => h)
theorem d_X5_jawTired_0 : decode prog_7_method_3_code 0 = .ok (.aload_n 1, 1) := ge_aload_n_1 (by decide +kernel)
theorem d_X5_jawTired_1 : decode prog_7_method_3_code 1 = .ok (.getfield 18, 3) := ge_getfield (by decide +kernel)
theorem d_X5_jawTired_4 : decode prog_7_method_3_code 4 = .ok (.ireturn, 1) := ge_ireturn (by decide +kernel)
def f_X5_jawTired (a0 : Nat) (a1 : Nat) (μ : gm_M) : Option (Option Value × gm_M) := gm_gI μ [7] a1 3 (fun v1 => some (some (.int v1), μ))
set_option maxHeartbeats 4000000 in
theorem c_X5_jawTired (a0 : Nat) (a1 : Nat) (μ : gm_M) : gm_Call ({ cls := "GumBubble$Plain", name := "jawTired", desc := "(LGumBubble$Child;)I" } : Jvm.MethodName) prog_7_method_3_code 2 (some .int) 0 0 0 [.ref a0, .ref a1] μ (f_X5_jawTired a0 a1 μ) := by
  refine gm_start PN_5 (Nat.le_of_ble_eq_true rfl) (fun res μe => ?_)
  unfold f_X5_jawTired
  show gm_A "GumBubble$Plain" (gm_nm "jawTired") _ _ _ _ _ _ _ _ _ 0 [(0, .ref a0), (1, .ref a1)] [] _ _
  refine gm_aload_n d_X5_jawTired_0 rfl 1 rfl ?_
  refine gm_getI F_2_pieces gw_181 d_X5_jawTired_1 (fun v1 _ => ?_)
  exact gm_iret rfl d_X5_jawTired_4 (Nat.le_of_ble_eq_true rfl) (Nat.le_of_ble_eq_true rfl) (fun h => h)
theorem d_X6_jawTired_0 : decode prog_8_method_3_code 0 = .ok (.aload_n 1, 1) := ge_aload_n_1 (by decide +kernel)
theorem d_X6_jawTired_1 : decode prog_8_method_3_code 1 = .ok (.getfield 11, 3) := ge_getfield (by decide +kernel)
theorem d_X6_jawTired_4 : decode prog_8_method_3_code 4 = .ok (.iconst 1, 1) := ge_iconst_1 (by decide +kernel)
theorem d_X6_jawTired_5 : decode prog_8_method_3_code 5 = .ok (.iadd, 1) := ge_iadd (by decide +kernel)
theorem d_X6_jawTired_6 : decode prog_8_method_3_code 6 = .ok (.ireturn, 1) := ge_ireturn (by decide +kernel)
def f_X6_jawTired (a0 : Nat) (a1 : Nat) (μ : gm_M) : Option (Option Value × gm_M) := gm_gI μ [7] a1 3 (fun v1 => some (some (.int (v1 + (1 : Int32))), μ))
set_option maxHeartbeats 4000000 in
theorem c_X6_jawTired (a0 : Nat) (a1 : Nat) (μ : gm_M) : gm_Call ({ cls := "GumBubble$Quick", name := "jawTired", desc := "(LGumBubble$Child;)I" } : Jvm.MethodName) prog_8_method_3_code 2 (some .int) 0 0 0 [.ref a0, .ref a1] μ (f_X6_jawTired a0 a1 μ) := by
  refine gm_start PN_6 (Nat.le_of_ble_eq_true rfl) (fun res μe => ?_)
  unfold f_X6_jawTired
  show gm_A "GumBubble$Quick" (gm_nm "jawTired") _ _ _ _ _ _ _ _ _ 0 [(0, .ref a0), (1, .ref a1)] [] _ _
  refine gm_aload_n d_X6_jawTired_0 rfl 1 rfl ?_
  refine gm_getI F_2_pieces gw_183 d_X6_jawTired_1 (fun v1 _ => ?_)
  refine gm_iconst (v := 1) d_X6_jawTired_4 (by decide) ?_
  refine gm_iadd d_X6_jawTired_5 ?_
  exact gm_iret rfl d_X6_jawTired_6 (Nat.le_of_ble_eq_true rfl) (Nat.le_of_ble_eq_true rfl) (fun h => h)
def fv_sugarChewed (r : Nat) (b0 : Nat) (b1 : Int32) (μ : gm_M) : Option (Option Value × gm_M) := if gm_tag μ r = 10 then f_X5_sugarChewed r b0 b1 μ else if gm_tag μ r = 11 then f_X6_sugarChewed r b0 b1 μ else if gm_tag μ r = 14 then f_X9_sugarChewed r b0 b1 μ else if gm_tag μ r = 8 then f_X3_sugarChewed r b0 b1 μ else if gm_tag μ r = 9 then f_X4_sugarChewed r b0 b1 μ else if gm_tag μ r = 6 then f_X1_sugarChewed r b0 b1 μ else if gm_tag μ r = 15 then f_X10_sugarChewed r b0 b1 μ else none
theorem V_sugarChewed {own : String} {nm : gm_Nm} {cc : ByteArray} {nL : Nat} {rt : Option FieldType} {R : Room} {res : Option Value} {μe : gm_M} {β : Type} {k n : Nat} {μ : gm_M} {pc : Nat} {L : List (Nat × Value)} {st : List Value} {z : Option β} {κ : β → Prop} (r : Nat) (b0 : Nat) (b1 : Int32) {index : Nat} {st0 : List Value} (hw1 : Jvm.Cond.methodLink own index ({ cls := "GumBubble$Plain", name := "sugarChewed", desc := "(LGumBubble$Child;I)I" } : Jvm.MethodName) ∈ gm_G) (hfit : gm_fit R k n 0 0 2 3 = true) (hst : st0 = [.ref b0, .int b1].reverse ++ .ref r :: st) (hsm : gm_sum st = true) (hd : decode cc pc = .ok (.invokevirtual index, 3))
    (kk : gm_K2 own nm cc nL rt R res μe (k + 0) (n + 0) (pc + 3) L st (fv_sugarChewed r b0 b1 μ) z κ) : gm_A own nm cc nL rt R res μe k n μ pc L st0 z κ := by
  unfold fv_sugarChewed at kk
  by_cases h5 : gm_tag μ r = 10
  · rw [if_pos h5] at kk
    exact gm_callV (k0 := 5) [.ref b0, .int b1] (c_X5_sugarChewed r b0 b1 μ) h5 rfl B_X5_sugarChewed hw1 gw_496 (gm_fit_le hfit (Nat.le_of_ble_eq_true rfl) (Nat.le_of_ble_eq_true rfl)) hst hsm hd kk
  rw [if_neg h5] at kk
  by_cases h6 : gm_tag μ r = 11
  · rw [if_pos h6] at kk
    exact gm_callU (k0 := 6) [.ref b0, .int b1] (c_X6_sugarChewed r b0 b1 μ) h6 rfl MH_5 NP_X5_sugarChewed B_X6_sugarChewed hw1 gw_497 gw_495 gw_523 gw_517 (gm_fit_le hfit (Nat.le_of_ble_eq_true rfl) (Nat.le_of_ble_eq_true rfl)) hst hsm hd kk
  rw [if_neg h6] at kk
  by_cases h9 : gm_tag μ r = 14
  · rw [if_pos h9] at kk
    exact gm_callU (k0 := 9) [.ref b0, .int b1] (c_X9_sugarChewed r b0 b1 μ) h9 rfl MH_5 NP_X5_sugarChewed B_X9_sugarChewed hw1 gw_497 gw_495 gw_523 gw_518 (gm_fit_le hfit (Nat.le_of_ble_eq_true rfl) (Nat.le_of_ble_eq_true rfl)) hst hsm hd kk
  rw [if_neg h9] at kk
  by_cases h3 : gm_tag μ r = 8
  · rw [if_pos h3] at kk
    exact gm_callU (k0 := 3) [.ref b0, .int b1] (c_X3_sugarChewed r b0 b1 μ) h3 rfl MH_5 NP_X5_sugarChewed B_X3_sugarChewed hw1 gw_497 gw_495 gw_523 gw_505 (gm_fit_le hfit (Nat.le_of_ble_eq_true rfl) (Nat.le_of_ble_eq_true rfl)) hst hsm hd kk
  rw [if_neg h3] at kk
  by_cases h4 : gm_tag μ r = 9
  · rw [if_pos h4] at kk
    exact gm_callU (k0 := 4) [.ref b0, .int b1] (c_X4_sugarChewed r b0 b1 μ) h4 rfl MH_5 NP_X5_sugarChewed B_X4_sugarChewed hw1 gw_497 gw_495 gw_523 gw_510 (gm_fit_le hfit (Nat.le_of_ble_eq_true rfl) (Nat.le_of_ble_eq_true rfl)) hst hsm hd kk
  rw [if_neg h4] at kk
  by_cases h1 : gm_tag μ r = 6
  · rw [if_pos h1] at kk
    exact gm_callU (k0 := 1) [.ref b0, .int b1] (c_X1_sugarChewed r b0 b1 μ) h1 rfl MH_5 NP_X5_sugarChewed B_X1_sugarChewed hw1 gw_497 gw_495 gw_523 gw_498 (gm_fit_le hfit (Nat.le_of_ble_eq_true rfl) (Nat.le_of_ble_eq_true rfl)) hst hsm hd kk
  rw [if_neg h1] at kk
  by_cases h10 : gm_tag μ r = 15
  · rw [if_pos h10] at kk
    exact gm_callU (k0 := 10) [.ref b0, .int b1] (c_X10_sugarChewed r b0 b1 μ) h10 rfl MH_5 NP_X5_sugarChewed B_X10_sugarChewed hw1 gw_497 gw_495 gw_523 gw_519 (gm_fit_le hfit (Nat.le_of_ble_eq_true rfl) (Nat.le_of_ble_eq_true rfl)) hst hsm hd kk
  rw [if_neg h10] at kk
  obtain ⟨k0, -⟩ := kk
  rw [k0 rfl]
  exact gm_no
def fv_jawTired (r : Nat) (b0 : Nat) (μ : gm_M) : Option (Option Value × gm_M) := if gm_tag μ r = 10 then f_X5_jawTired r b0 μ else if gm_tag μ r = 11 then f_X6_jawTired r b0 μ else if gm_tag μ r = 14 then f_X5_jawTired r b0 μ else if gm_tag μ r = 8 then f_X3_jawTired r b0 μ else if gm_tag μ r = 9 then f_X6_jawTired r b0 μ else if gm_tag μ r = 6 then f_X1_jawTired r b0 μ else if gm_tag μ r = 15 then f_X3_jawTired r b0 μ else none
theorem V_jawTired {own : String} {nm : gm_Nm} {cc : ByteArray} {nL : Nat} {rt : Option FieldType} {R : Room} {res : Option Value} {μe : gm_M} {β : Type} {k n : Nat} {μ : gm_M} {pc : Nat} {L : List (Nat × Value)} {st : List Value} {z : Option β} {κ : β → Prop} (r : Nat) (b0 : Nat) {index : Nat} {st0 : List Value} (hw1 : Jvm.Cond.methodLink own index ({ cls := "GumBubble$Plain", name := "jawTired", desc := "(LGumBubble$Child;)I" } : Jvm.MethodName) ∈ gm_G) (hfit : gm_fit R k n 0 0 0 2 = true) (hst : st0 = [.ref b0].reverse ++ .ref r :: st) (hsm : gm_sum st = true) (hd : decode cc pc = .ok (.invokevirtual index, 3))
    (kk : gm_K2 own nm cc nL rt R res μe (k + 0) (n + 0) (pc + 3) L st (fv_jawTired r b0 μ) z κ) : gm_A own nm cc nL rt R res μe k n μ pc L st0 z κ := by
  unfold fv_jawTired at kk
  by_cases h5 : gm_tag μ r = 10
  · rw [if_pos h5] at kk
    exact gm_callV (k0 := 5) [.ref b0] (c_X5_jawTired r b0 μ) h5 rfl B_X5_jawTired hw1 gw_526 (gm_fit_le hfit (Nat.le_of_ble_eq_true rfl) (Nat.le_of_ble_eq_true rfl)) hst hsm hd kk
  rw [if_neg h5] at kk
  by_cases h6 : gm_tag μ r = 11
  · rw [if_pos h6] at kk
    exact gm_callU (k0 := 6) [.ref b0] (c_X6_jawTired r b0 μ) h6 rfl MH_5 NP_X5_jawTired B_X6_jawTired hw1 gw_527 gw_525 gw_540 gw_537 (gm_fit_le hfit (Nat.le_of_ble_eq_true rfl) (Nat.le_of_ble_eq_true rfl)) hst hsm hd kk
  rw [if_neg h6] at kk
  by_cases h9 : gm_tag μ r = 14
  · rw [if_pos h9] at kk
    exact gm_callU (k0 := 9) [.ref b0] (c_X5_jawTired r b0 μ) h9 rfl MH_5 NP_X5_jawTired B_X5_jawTired hw1 gw_527 gw_525 gw_540 gw_538 (gm_fit_le hfit (Nat.le_of_ble_eq_true rfl) (Nat.le_of_ble_eq_true rfl)) hst hsm hd kk
  rw [if_neg h9] at kk
  by_cases h3 : gm_tag μ r = 8
  · rw [if_pos h3] at kk
    exact gm_callU (k0 := 3) [.ref b0] (c_X3_jawTired r b0 μ) h3 rfl MH_5 NP_X5_jawTired B_X3_jawTired hw1 gw_527 gw_525 gw_540 gw_531 (gm_fit_le hfit (Nat.le_of_ble_eq_true rfl) (Nat.le_of_ble_eq_true rfl)) hst hsm hd kk
  rw [if_neg h3] at kk
  by_cases h4 : gm_tag μ r = 9
  · rw [if_pos h4] at kk
    exact gm_callU (k0 := 4) [.ref b0] (c_X6_jawTired r b0 μ) h4 rfl MH_5 NP_X5_jawTired B_X6_jawTired hw1 gw_527 gw_525 gw_540 gw_534 (gm_fit_le hfit (Nat.le_of_ble_eq_true rfl) (Nat.le_of_ble_eq_true rfl)) hst hsm hd kk
  rw [if_neg h4] at kk
  by_cases h1 : gm_tag μ r = 6
  · rw [if_pos h1] at kk
    exact gm_callU (k0 := 1) [.ref b0] (c_X1_jawTired r b0 μ) h1 rfl MH_5 NP_X5_jawTired B_X1_jawTired hw1 gw_527 gw_525 gw_540 gw_528 (gm_fit_le hfit (Nat.le_of_ble_eq_true rfl) (Nat.le_of_ble_eq_true rfl)) hst hsm hd kk
  rw [if_neg h1] at kk
  by_cases h10 : gm_tag μ r = 15
  · rw [if_pos h10] at kk
    exact gm_callU (k0 := 10) [.ref b0] (c_X3_jawTired r b0 μ) h10 rfl MH_5 NP_X5_jawTired B_X3_jawTired hw1 gw_527 gw_525 gw_540 gw_539 (gm_fit_le hfit (Nat.le_of_ble_eq_true rfl) (Nat.le_of_ble_eq_true rfl)) hst hsm hd kk
  rw [if_neg h10] at kk
  obtain ⟨k0, -⟩ := kk
  rw [k0 rfl]
  exact gm_no
theorem d_X2_passMinute_0 : decode prog_4_method_5_code 0 = .ok (.aload_n 0, 1) := ge_aload_n_0 (by decide +kernel)
theorem d_X2_passMinute_1 : decode prog_4_method_5_code 1 = .ok (.getfield 35, 3) := ge_getfield (by decide +kernel)
theorem d_X2_passMinute_4 : decode prog_4_method_5_code 4 = .ok (.ifCond .le 25, 3) := ge_ifCond_le (by decide +kernel)
theorem d_X2_passMinute_7 : decode prog_4_method_5_code 7 = .ok (.aload_n 0, 1) := ge_aload_n_0 (by decide +kernel)
theorem d_X2_passMinute_8 : decode prog_4_method_5_code 8 = .ok (.iconst 0, 1) := ge_iconst_0 (by decide +kernel)
theorem d_X2_passMinute_9 : decode prog_4_method_5_code 9 = .ok (.aload_n 0, 1) := ge_aload_n_0 (by decide +kernel)
theorem d_X2_passMinute_10 : decode prog_4_method_5_code 10 = .ok (.getfield 35, 3) := ge_getfield (by decide +kernel)
theorem d_X2_passMinute_13 : decode prog_4_method_5_code 13 = .ok (.aload_n 0, 1) := ge_aload_n_0 (by decide +kernel)
theorem d_X2_passMinute_14 : decode prog_4_method_5_code 14 = .ok (.getfield 23, 3) := ge_getfield (by decide +kernel)
theorem d_X2_passMinute_17 : decode prog_4_method_5_code 17 = .ok (.isub, 1) := ge_isub (by decide +kernel)
theorem d_X2_passMinute_18 : decode prog_4_method_5_code 18 = .ok (.iconst 1, 1) := ge_iconst_1 (by decide +kernel)
theorem d_X2_passMinute_19 : decode prog_4_method_5_code 19 = .ok (.isub, 1) := ge_isub (by decide +kernel)
theorem d_X2_passMinute_20 : decode prog_4_method_5_code 20 = .ok (.invokestatic 56, 3) := ge_invokestatic (by decide +kernel)
theorem d_X2_passMinute_23 : decode prog_4_method_5_code 23 = .ok (.putfield 35, 3) := ge_putfield (by decide +kernel)
theorem d_X2_passMinute_26 : decode prog_4_method_5_code 26 = .ok (.goto 71, 3) := ge_goto (by decide +kernel)
theorem d_X2_passMinute_29 : decode prog_4_method_5_code 29 = .ok (.aload_n 0, 1) := ge_aload_n_0 (by decide +kernel)
theorem d_X2_passMinute_30 : decode prog_4_method_5_code 30 = .ok (.getfield 26, 3) := ge_getfield (by decide +kernel)
theorem d_X2_passMinute_33 : decode prog_4_method_5_code 33 = .ok (.ifCond .le 50, 3) := ge_ifCond_le (by decide +kernel)
theorem d_X2_passMinute_36 : decode prog_4_method_5_code 36 = .ok (.aload_n 0, 1) := ge_aload_n_0 (by decide +kernel)
theorem d_X2_passMinute_37 : decode prog_4_method_5_code 37 = .ok (.iconst 0, 1) := ge_iconst_0 (by decide +kernel)
theorem d_X2_passMinute_38 : decode prog_4_method_5_code 38 = .ok (.aload_n 0, 1) := ge_aload_n_0 (by decide +kernel)
theorem d_X2_passMinute_39 : decode prog_4_method_5_code 39 = .ok (.getfield 29, 3) := ge_getfield (by decide +kernel)
theorem d_X2_passMinute_42 : decode prog_4_method_5_code 42 = .ok (.aload_n 0, 1) := ge_aload_n_0 (by decide +kernel)
theorem d_X2_passMinute_43 : decode prog_4_method_5_code 43 = .ok (.getfield 19, 3) := ge_getfield (by decide +kernel)
theorem d_X2_passMinute_46 : decode prog_4_method_5_code 46 = .ok (.aload_n 0, 1) := ge_aload_n_0 (by decide +kernel)
theorem d_X2_passMinute_47 : decode prog_4_method_5_code 47 = .ok (.iload_n 1, 1) := ge_iload_n_1 (by decide +kernel)
theorem d_X2_passMinute_48 : decode prog_4_method_5_code 48 = .ok (.invokevirtual 68, 3) := ge_invokevirtual (by decide +kernel)
theorem d_X2_passMinute_51 : decode prog_4_method_5_code 51 = .ok (.isub, 1) := ge_isub (by decide +kernel)
theorem d_X2_passMinute_52 : decode prog_4_method_5_code 52 = .ok (.invokestatic 56, 3) := ge_invokestatic (by decide +kernel)
theorem d_X2_passMinute_55 : decode prog_4_method_5_code 55 = .ok (.putfield 29, 3) := ge_putfield (by decide +kernel)
theorem d_X2_passMinute_58 : decode prog_4_method_5_code 58 = .ok (.aload_n 0, 1) := ge_aload_n_0 (by decide +kernel)
theorem d_X2_passMinute_59 : decode prog_4_method_5_code 59 = .ok (.bipush 99, 2) := ge_bipush (by decide +kernel)
theorem d_X2_passMinute_61 : decode prog_4_method_5_code 61 = .ok (.aload_n 0, 1) := ge_aload_n_0 (by decide +kernel)
theorem d_X2_passMinute_62 : decode prog_4_method_5_code 62 = .ok (.getfield 32, 3) := ge_getfield (by decide +kernel)
theorem d_X2_passMinute_65 : decode prog_4_method_5_code 65 = .ok (.aload_n 0, 1) := ge_aload_n_0 (by decide +kernel)
theorem d_X2_passMinute_66 : decode prog_4_method_5_code 66 = .ok (.getfield 19, 3) := ge_getfield (by decide +kernel)
theorem d_X2_passMinute_69 : decode prog_4_method_5_code 69 = .ok (.aload_n 0, 1) := ge_aload_n_0 (by decide +kernel)
theorem d_X2_passMinute_70 : decode prog_4_method_5_code 70 = .ok (.invokevirtual 71, 3) := ge_invokevirtual (by decide +kernel)
theorem d_X2_passMinute_73 : decode prog_4_method_5_code 73 = .ok (.iadd, 1) := ge_iadd (by decide +kernel)
theorem d_X2_passMinute_74 : decode prog_4_method_5_code 74 = .ok (.invokestatic 75, 3) := ge_invokestatic (by decide +kernel)
theorem d_X2_passMinute_77 : decode prog_4_method_5_code 77 = .ok (.putfield 32, 3) := ge_putfield (by decide +kernel)
theorem d_X2_passMinute_80 : decode prog_4_method_5_code 80 = .ok (.goto 17, 3) := ge_goto (by decide +kernel)
theorem d_X2_passMinute_83 : decode prog_4_method_5_code 83 = .ok (.aload_n 0, 1) := ge_aload_n_0 (by decide +kernel)
theorem d_X2_passMinute_84 : decode prog_4_method_5_code 84 = .ok (.iconst 0, 1) := ge_iconst_0 (by decide +kernel)
theorem d_X2_passMinute_85 : decode prog_4_method_5_code 85 = .ok (.aload_n 0, 1) := ge_aload_n_0 (by decide +kernel)
theorem d_X2_passMinute_86 : decode prog_4_method_5_code 86 = .ok (.getfield 32, 3) := ge_getfield (by decide +kernel)
theorem d_X2_passMinute_89 : decode prog_4_method_5_code 89 = .ok (.iconst 5, 1) := ge_iconst_5 (by decide +kernel)
theorem d_X2_passMinute_90 : decode prog_4_method_5_code 90 = .ok (.isub, 1) := ge_isub (by decide +kernel)
theorem d_X2_passMinute_91 : decode prog_4_method_5_code 91 = .ok (.invokestatic 56, 3) := ge_invokestatic (by decide +kernel)
theorem d_X2_passMinute_94 : decode prog_4_method_5_code 94 = .ok (.putfield 32, 3) := ge_putfield (by decide +kernel)
theorem d_X2_passMinute_97 : decode prog_4_method_5_code 97 = .ok (.return_, 1) := ge_return_ (by decide +kernel)
def f_X2_passMinute (a0 : Nat) (a1 : Int32) (μ : gm_M) : Option (Option Value × gm_M) := gm_gI μ [7] a0 6 (fun v1 => if v1 ≤ 0 then gm_gI μ [7] a0 3 (fun v2 => if v2 ≤ 0 then gm_gI μ [7] a0 5 (fun v3 => gm_pI μ [7] a0 5 (if (0 : Int32) < (v3 - (5 : Int32)) then (v3 - (5 : Int32)) else (0 : Int32)) (fun m5 => some (none, m5))) else gm_gI μ [7] a0 4 (fun v6 => gm_gR μ [7] a0 1 (fun v7 => gm_bI (fv_sugarChewed v7 a0 a1 μ) (fun x9 m8 => gm_pI m8 [7] a0 4 (if (0 : Int32) < (v6 - x9) then (v6 - x9) else (0 : Int32)) (fun m11 => gm_gI m11 [7] a0 5 (fun v12 => gm_gR m11 [7] a0 1 (fun v13 => gm_bI (fv_jawTired v13 a0 m11) (fun x15 m14 => gm_pI m14 [7] a0 5 (if (v12 + x15) < (99 : Int32) then (v12 + x15) else (99 : Int32)) (fun m17 => some (none, m17)))))))))) else gm_gI μ [7] a0 6 (fun v18 => gm_gI μ [7] a0 2 (fun v19 => gm_pI μ [7] a0 6 (if (0 : Int32) < ((v18 - v19) - (1 : Int32)) then ((v18 - v19) - (1 : Int32)) else (0 : Int32)) (fun m21 => some (none, m21)))))
set_option maxHeartbeats 4000000 in
theorem c_X2_passMinute (a0 : Nat) (a1 : Int32) (μ : gm_M) : gm_Call ({ cls := "GumBubble$Child", name := "passMinute", desc := "(I)V" } : Jvm.MethodName) prog_4_method_5_code 2 none 3 0 0 [.ref a0, .int a1] μ (f_X2_passMinute a0 a1 μ) := by
  refine gm_start PN_2 (Nat.le_of_ble_eq_true rfl) (fun res μe => ?_)
  unfold f_X2_passMinute
  show gm_A "GumBubble$Child" (gm_nm "passMinute") _ _ _ _ _ _ _ _ _ 0 [(0, .ref a0), (1, .int a1)] [] _ _
  refine gm_aload_n d_X2_passMinute_0 rfl 0 rfl ?_
  refine gm_getI F_2_bubble gw_192 d_X2_passMinute_1 (fun v1 _ => ?_)
  refine gm_if_le (tgt := 29) d_X2_passMinute_4 (by decide) (fun h4 => ?_) (fun h4 => ?_)
  ·
    refine gm_aload_n d_X2_passMinute_29 rfl 0 rfl ?_
    refine gm_getI F_2_pieces gw_180 d_X2_passMinute_30 (fun v2 _ => ?_)
    refine gm_if_le (tgt := 83) d_X2_passMinute_33 (by decide) (fun h33 => ?_) (fun h33 => ?_)
    ·
      refine gm_aload_n d_X2_passMinute_83 rfl 0 rfl ?_
      refine gm_iconst (v := 0) d_X2_passMinute_84 (by decide) ?_
      refine gm_aload_n d_X2_passMinute_85 rfl 0 rfl ?_
      refine gm_getI F_2_jaw gw_190 d_X2_passMinute_86 (fun v3 _ => ?_)
      refine gm_iconst (v := 5) d_X2_passMinute_89 (by decide) ?_
      refine gm_isub d_X2_passMinute_90 ?_
      refine gm_max gw_550 gw_38 gw_3 (show _ from gw_39) (Nat.le_of_ble_eq_true rfl) (Nat.le_of_ble_eq_true rfl) (Nat.le_of_ble_eq_true rfl) (Nat.le_of_ble_eq_true rfl) rfl d_X2_passMinute_91 ?_
      refine gm_putI F_2_jaw (Or.inl rfl) gw_190 d_X2_passMinute_94 (fun m5 _ => ?_)
      exact gm_vret rfl d_X2_passMinute_97 (Nat.le_of_ble_eq_true rfl) (Nat.le_of_ble_eq_true rfl) (fun h => h)
    ·
      refine gm_aload_n d_X2_passMinute_36 rfl 0 rfl ?_
      refine gm_iconst (v := 0) d_X2_passMinute_37 (by decide) ?_
      refine gm_aload_n d_X2_passMinute_38 rfl 0 rfl ?_
      refine gm_getI F_2_sugar gw_187 d_X2_passMinute_39 (fun v6 _ => ?_)
      refine gm_aload_n d_X2_passMinute_42 rfl 0 rfl ?_
      refine gm_getR F_2_kind gw_171 d_X2_passMinute_43 (fun v7 _ => ?_)
      refine gm_aload_n d_X2_passMinute_46 rfl 0 rfl ?_
      refine gm_iload_n d_X2_passMinute_47 rfl 1 rfl ?_
      refine V_sugarChewed v7 a0 a1 gw_600 rfl rfl rfl d_X2_passMinute_48 (gm_kI (fun x9 m8 => ?_))
      refine gm_isub d_X2_passMinute_51 ?_
      refine gm_max gw_550 gw_38 gw_3 (show _ from gw_39) (Nat.le_of_ble_eq_true rfl) (Nat.le_of_ble_eq_true rfl) (Nat.le_of_ble_eq_true rfl) (Nat.le_of_ble_eq_true rfl) rfl d_X2_passMinute_52 ?_
      refine gm_putI F_2_sugar (Or.inl rfl) gw_187 d_X2_passMinute_55 (fun m11 _ => ?_)
      refine gm_aload_n d_X2_passMinute_58 rfl 0 rfl ?_
      refine gm_bipush (v := 99) d_X2_passMinute_59 (by decide) ?_
      refine gm_aload_n d_X2_passMinute_61 rfl 0 rfl ?_
      refine gm_getI F_2_jaw gw_190 d_X2_passMinute_62 (fun v12 _ => ?_)
      refine gm_aload_n d_X2_passMinute_65 rfl 0 rfl ?_
      refine gm_getR F_2_kind gw_171 d_X2_passMinute_66 (fun v13 _ => ?_)
      refine gm_aload_n d_X2_passMinute_69 rfl 0 rfl ?_
      refine V_jawTired v13 a0 gw_601 rfl rfl rfl d_X2_passMinute_70 (gm_kI (fun x15 m14 => ?_))
      refine gm_iadd d_X2_passMinute_73 ?_
      refine gm_min gw_602 gw_310 gw_3 (show _ from gw_311) (Nat.le_of_ble_eq_true rfl) (Nat.le_of_ble_eq_true rfl) (Nat.le_of_ble_eq_true rfl) (Nat.le_of_ble_eq_true rfl) rfl d_X2_passMinute_74 ?_
      refine gm_putI F_2_jaw (Or.inl rfl) gw_190 d_X2_passMinute_77 (fun m17 _ => ?_)
      refine gm_goto (tgt := 97) d_X2_passMinute_80 (by decide) ?_
      exact gm_vret rfl d_X2_passMinute_97 (Nat.le_of_ble_eq_true rfl) (Nat.le_of_ble_eq_true rfl) (fun h => h)
  ·
    refine gm_aload_n d_X2_passMinute_7 rfl 0 rfl ?_
    refine gm_iconst (v := 0) d_X2_passMinute_8 (by decide) ?_
    refine gm_aload_n d_X2_passMinute_9 rfl 0 rfl ?_
    refine gm_getI F_2_bubble gw_192 d_X2_passMinute_10 (fun v18 _ => ?_)
    refine gm_aload_n d_X2_passMinute_13 rfl 0 rfl ?_
    refine gm_getI F_2_v gw_175 d_X2_passMinute_14 (fun v19 _ => ?_)
    refine gm_isub d_X2_passMinute_17 ?_
    refine gm_iconst (v := 1) d_X2_passMinute_18 (by decide) ?_
    refine gm_isub d_X2_passMinute_19 ?_
    refine gm_max gw_550 gw_38 gw_3 (show _ from gw_39) (Nat.le_of_ble_eq_true rfl) (Nat.le_of_ble_eq_true rfl) (Nat.le_of_ble_eq_true rfl) (Nat.le_of_ble_eq_true rfl) rfl d_X2_passMinute_20 ?_
    refine gm_putI F_2_bubble (Or.inl rfl) gw_192 d_X2_passMinute_23 (fun m21 _ => ?_)
    refine gm_goto (tgt := 97) d_X2_passMinute_26 (by decide) ?_
    exact gm_vret rfl d_X2_passMinute_97 (Nat.le_of_ble_eq_true rfl) (Nat.le_of_ble_eq_true rfl) (fun h => h)
theorem d_X7_isKept_0 : decode prog_9_method_3_code 0 = .ok (.iload_n 1, 1) := ge_iload_n_1 (by decide +kernel)
theorem d_X7_isKept_1 : decode prog_9_method_3_code 1 = .ok (.ifCond .lt 23, 3) := ge_ifCond_lt (by decide +kernel)
theorem d_X7_isKept_4 : decode prog_9_method_3_code 4 = .ok (.iload_n 1, 1) := ge_iload_n_1 (by decide +kernel)
theorem d_X7_isKept_5 : decode prog_9_method_3_code 5 = .ok (.aload_n 0, 1) := ge_aload_n_0 (by decide +kernel)
theorem d_X7_isKept_6 : decode prog_9_method_3_code 6 = .ok (.getfield 23, 3) := ge_getfield (by decide +kernel)
theorem d_X7_isKept_9 : decode prog_9_method_3_code 9 = .ok (.if_icmp .ge 15, 3) := ge_if_icmp_ge (by decide +kernel)
theorem d_X7_isKept_12 : decode prog_9_method_3_code 12 = .ok (.iload_n 1, 1) := ge_iload_n_1 (by decide +kernel)
theorem d_X7_isKept_13 : decode prog_9_method_3_code 13 = .ok (.aload_n 0, 1) := ge_aload_n_0 (by decide +kernel)
theorem d_X7_isKept_14 : decode prog_9_method_3_code 14 = .ok (.getfield 7, 3) := ge_getfield (by decide +kernel)
theorem d_X7_isKept_17 : decode prog_9_method_3_code 17 = .ok (.if_icmp .ge 7, 3) := ge_if_icmp_ge (by decide +kernel)
theorem d_X7_isKept_20 : decode prog_9_method_3_code 20 = .ok (.iconst 1, 1) := ge_iconst_1 (by decide +kernel)
theorem d_X7_isKept_21 : decode prog_9_method_3_code 21 = .ok (.goto 4, 3) := ge_goto (by decide +kernel)
theorem d_X7_isKept_24 : decode prog_9_method_3_code 24 = .ok (.iconst 0, 1) := ge_iconst_0 (by decide +kernel)
theorem d_X7_isKept_25 : decode prog_9_method_3_code 25 = .ok (.ireturn, 1) := ge_ireturn (by decide +kernel)
def f_X7_isKept (a0 : Nat) (a1 : Int32) (μ : gm_M) : Option (Option Value × gm_M) := if a1 < 0 then if (0 : Int32) = 0 ∨ (0 : Int32) = 1 then some (some (.int (0 : Int32)), μ) else none else gm_gI μ [12] a0 2 (fun v1 => if v1 ≤ a1 then if (0 : Int32) = 0 ∨ (0 : Int32) = 1 then some (some (.int (0 : Int32)), μ) else none else gm_gI μ [12] a0 0 (fun v2 => if v2 ≤ a1 then if (0 : Int32) = 0 ∨ (0 : Int32) = 1 then some (some (.int (0 : Int32)), μ) else none else if (1 : Int32) = 0 ∨ (1 : Int32) = 1 then some (some (.int (1 : Int32)), μ) else none))
set_option maxHeartbeats 4000000 in
theorem c_X7_isKept (a0 : Nat) (a1 : Int32) (μ : gm_M) : gm_Call ({ cls := "GumBubble$Rows", name := "isKept", desc := "(I)Z" } : Jvm.MethodName) prog_9_method_3_code 2 (some .boolean) 0 0 0 [.ref a0, .int a1] μ (f_X7_isKept a0 a1 μ) := by
  refine gm_start PN_7 (Nat.le_of_ble_eq_true rfl) (fun res μe => ?_)
  unfold f_X7_isKept
  show gm_A "GumBubble$Rows" (gm_nm "isKept") _ _ _ _ _ _ _ _ _ 0 [(0, .ref a0), (1, .int a1)] [] _ _
  refine gm_iload_n d_X7_isKept_0 rfl 1 rfl ?_
  refine gm_if_lt (tgt := 24) d_X7_isKept_1 (by decide) (fun h1 => ?_) (fun h1 => ?_)
  ·
    refine gm_iconst (v := 0) d_X7_isKept_24 (by decide) ?_
    exact gm_zret rfl d_X7_isKept_25 (Nat.le_of_ble_eq_true rfl) (Nat.le_of_ble_eq_true rfl) (fun h => h)
  ·
    refine gm_iload_n d_X7_isKept_4 rfl 1 rfl ?_
    refine gm_aload_n d_X7_isKept_5 rfl 0 rfl ?_
    refine gm_getI F_7_count gw_42 d_X7_isKept_6 (fun v1 _ => ?_)
    refine gm_icmp_ge (tgt := 24) d_X7_isKept_9 (by decide) (fun h9 => ?_) (fun h9 => ?_)
    ·
      refine gm_iconst (v := 0) d_X7_isKept_24 (by decide) ?_
      exact gm_zret rfl d_X7_isKept_25 (Nat.le_of_ble_eq_true rfl) (Nat.le_of_ble_eq_true rfl) (fun h => h)
    ·
      refine gm_iload_n d_X7_isKept_12 rfl 1 rfl ?_
      refine gm_aload_n d_X7_isKept_13 rfl 0 rfl ?_
      refine gm_getI F_7_limit gw_40 d_X7_isKept_14 (fun v2 _ => ?_)
      refine gm_icmp_ge (tgt := 24) d_X7_isKept_17 (by decide) (fun h17 => ?_) (fun h17 => ?_)
      ·
        refine gm_iconst (v := 0) d_X7_isKept_24 (by decide) ?_
        exact gm_zret rfl d_X7_isKept_25 (Nat.le_of_ble_eq_true rfl) (Nat.le_of_ble_eq_true rfl) (fun h => h)
      ·
        refine gm_iconst (v := 1) d_X7_isKept_20 (by decide) ?_
        refine gm_goto (tgt := 25) d_X7_isKept_21 (by decide) ?_
        exact gm_zret rfl d_X7_isKept_25 (Nat.le_of_ble_eq_true rfl) (Nat.le_of_ble_eq_true rfl) (fun h => h)
theorem d_X7_cell_0 : decode prog_9_method_4_code 0 = .ok (.aload_n 0, 1) := ge_aload_n_0 (by decide +kernel)
theorem d_X7_cell_1 : decode prog_9_method_4_code 1 = .ok (.iload_n 1, 1) := ge_iload_n_1 (by decide +kernel)
theorem d_X7_cell_2 : decode prog_9_method_4_code 2 = .ok (.invokevirtual 26, 3) := ge_invokevirtual (by decide +kernel)
theorem d_X7_cell_5 : decode prog_9_method_4_code 5 = .ok (.ifCond .eq 12, 3) := ge_ifCond_eq (by decide +kernel)
theorem d_X7_cell_8 : decode prog_9_method_4_code 8 = .ok (.iload_n 2, 1) := ge_iload_n_2 (by decide +kernel)
theorem d_X7_cell_9 : decode prog_9_method_4_code 9 = .ok (.ifCond .lt 8, 3) := ge_ifCond_lt (by decide +kernel)
theorem d_X7_cell_12 : decode prog_9_method_4_code 12 = .ok (.iload_n 2, 1) := ge_iload_n_2 (by decide +kernel)
theorem d_X7_cell_13 : decode prog_9_method_4_code 13 = .ok (.iconst 3, 1) := ge_iconst_3 (by decide +kernel)
theorem d_X7_cell_14 : decode prog_9_method_4_code 14 = .ok (.if_icmp .lt 5, 3) := ge_if_icmp_lt (by decide +kernel)
theorem d_X7_cell_17 : decode prog_9_method_4_code 17 = .ok (.iconst 0, 1) := ge_iconst_0 (by decide +kernel)
theorem d_X7_cell_18 : decode prog_9_method_4_code 18 = .ok (.ireturn, 1) := ge_ireturn (by decide +kernel)
theorem d_X7_cell_19 : decode prog_9_method_4_code 19 = .ok (.aload_n 0, 1) := ge_aload_n_0 (by decide +kernel)
theorem d_X7_cell_20 : decode prog_9_method_4_code 20 = .ok (.getfield 19, 3) := ge_getfield (by decide +kernel)
theorem d_X7_cell_23 : decode prog_9_method_4_code 23 = .ok (.iload_n 1, 1) := ge_iload_n_1 (by decide +kernel)
theorem d_X7_cell_24 : decode prog_9_method_4_code 24 = .ok (.iconst 3, 1) := ge_iconst_3 (by decide +kernel)
theorem d_X7_cell_25 : decode prog_9_method_4_code 25 = .ok (.imul, 1) := ge_imul (by decide +kernel)
theorem d_X7_cell_26 : decode prog_9_method_4_code 26 = .ok (.iload_n 2, 1) := ge_iload_n_2 (by decide +kernel)
theorem d_X7_cell_27 : decode prog_9_method_4_code 27 = .ok (.iadd, 1) := ge_iadd (by decide +kernel)
theorem d_X7_cell_28 : decode prog_9_method_4_code 28 = .ok (.iaload, 1) := ge_iaload (by decide +kernel)
theorem d_X7_cell_29 : decode prog_9_method_4_code 29 = .ok (.ireturn, 1) := ge_ireturn (by decide +kernel)
def f_X7_cell (a0 : Nat) (a1 : Int32) (a2 : Int32) (μ : gm_M) : Option (Option Value × gm_M) := if gm_tag μ a0 = 12 then gm_bI (f_X7_isKept a0 a1 μ) (fun x2 m1 => if x2 = 0 then some (some (.int (0 : Int32)), m1) else if a2 < 0 then some (some (.int (0 : Int32)), m1) else if a2 < (3 : Int32) then gm_gR m1 [12] a0 1 (fun v3 => gm_aI m1 v3 ((a1 * (3 : Int32)) + a2) (fun v4 => some (some (.int v4), m1))) else some (some (.int (0 : Int32)), m1)) else none
set_option maxHeartbeats 4000000 in
theorem c_X7_cell (a0 : Nat) (a1 : Int32) (a2 : Int32) (μ : gm_M) : gm_Call ({ cls := "GumBubble$Rows", name := "cell", desc := "(II)I" } : Jvm.MethodName) prog_9_method_4_code 3 (some .int) 1 0 0 [.ref a0, .int a1, .int a2] μ (f_X7_cell a0 a1 a2 μ) := by
  refine gm_start PN_7 (Nat.le_of_ble_eq_true rfl) (fun res μe => ?_)
  unfold f_X7_cell
  show gm_A "GumBubble$Rows" (gm_nm "cell") _ _ _ _ _ _ _ _ _ 0 [(0, .ref a0), (1, .int a1), (2, .int a2)] [] _ _
  refine gm_aload_n d_X7_cell_0 rfl 0 rfl ?_
  refine gm_iload_n d_X7_cell_1 rfl 1 rfl ?_
  refine gm_grd (fun g2 => ?_)
  refine gm_callV (k0 := 7) [.int a1] (c_X7_isKept a0 a1 μ) g2 rfl B_X7_isKept gw_738 gw_740 rfl rfl rfl d_X7_cell_2 (gm_kI (fun x2 m1 => ?_))
  refine gm_if_eq (tgt := 17) d_X7_cell_5 (by decide) (fun h5 => ?_) (fun h5 => ?_)
  ·
    refine gm_iconst (v := 0) d_X7_cell_17 (by decide) ?_
    exact gm_iret rfl d_X7_cell_18 (Nat.le_of_ble_eq_true rfl) (Nat.le_of_ble_eq_true rfl) (fun h => h)
  ·
    refine gm_iload_n d_X7_cell_8 rfl 2 rfl ?_
    refine gm_if_lt (tgt := 17) d_X7_cell_9 (by decide) (fun h9 => ?_) (fun h9 => ?_)
    ·
      refine gm_iconst (v := 0) d_X7_cell_17 (by decide) ?_
      exact gm_iret rfl d_X7_cell_18 (Nat.le_of_ble_eq_true rfl) (Nat.le_of_ble_eq_true rfl) (fun h => h)
    ·
      refine gm_iload_n d_X7_cell_12 rfl 2 rfl ?_
      refine gm_iconst (v := 3) d_X7_cell_13 (by decide) ?_
      refine gm_icmp_lt (tgt := 19) d_X7_cell_14 (by decide) (fun h14 => ?_) (fun h14 => ?_)
      ·
        refine gm_aload_n d_X7_cell_19 rfl 0 rfl ?_
        refine gm_getR F_7_cells gw_41 d_X7_cell_20 (fun v3 _ => ?_)
        refine gm_iload_n d_X7_cell_23 rfl 1 rfl ?_
        refine gm_iconst (v := 3) d_X7_cell_24 (by decide) ?_
        refine gm_imul d_X7_cell_25 ?_
        refine gm_iload_n d_X7_cell_26 rfl 2 rfl ?_
        refine gm_iadd d_X7_cell_27 ?_
        refine gm_iald d_X7_cell_28 (fun v4 _ => ?_)
        exact gm_iret rfl d_X7_cell_29 (Nat.le_of_ble_eq_true rfl) (Nat.le_of_ble_eq_true rfl) (fun h => h)
      ·
        refine gm_iconst (v := 0) d_X7_cell_17 (by decide) ?_
        exact gm_iret rfl d_X7_cell_18 (Nat.le_of_ble_eq_true rfl) (Nat.le_of_ble_eq_true rfl) (fun h => h)
theorem d_X11_tryPlan_0 : decode prog_1_method_56_code 0 = .ok (.aload_n 0, 1) := ge_aload_n_0 (by decide +kernel)
theorem d_X11_tryPlan_1 : decode prog_1_method_56_code 1 = .ok (.getfield 60, 3) := ge_getfield (by decide +kernel)
theorem d_X11_tryPlan_4 : decode prog_1_method_56_code 4 = .ok (.getfield 144, 3) := ge_getfield (by decide +kernel)
theorem d_X11_tryPlan_7 : decode prog_1_method_56_code 7 = .ok (.istore_n 1, 1) := ge_istore_n_1 (by decide +kernel)
theorem d_X11_tryPlan_8 : decode prog_1_method_56_code 8 = .ok (.iconst 0, 1) := ge_iconst_0 (by decide +kernel)
theorem d_X11_tryPlan_9 : decode prog_1_method_56_code 9 = .ok (.istore_n 2, 1) := ge_istore_n_2 (by decide +kernel)
theorem d_X11_tryPlan_10 : decode prog_1_method_56_code 10 = .ok (.iload_n 2, 1) := ge_iload_n_2 (by decide +kernel)
theorem d_X11_tryPlan_11 : decode prog_1_method_56_code 11 = .ok (.aload_n 0, 1) := ge_aload_n_0 (by decide +kernel)
theorem d_X11_tryPlan_12 : decode prog_1_method_56_code 12 = .ok (.getfield 60, 3) := ge_getfield (by decide +kernel)
theorem d_X11_tryPlan_15 : decode prog_1_method_56_code 15 = .ok (.getfield 250, 3) := ge_getfield (by decide +kernel)
theorem d_X11_tryPlan_18 : decode prog_1_method_56_code 18 = .ok (.getfield 259, 3) := ge_getfield (by decide +kernel)
theorem d_X11_tryPlan_21 : decode prog_1_method_56_code 21 = .ok (.if_icmp .ge 68, 3) := ge_if_icmp_ge (by decide +kernel)
theorem d_X11_tryPlan_24 : decode prog_1_method_56_code 24 = .ok (.aload_n 0, 1) := ge_aload_n_0 (by decide +kernel)
theorem d_X11_tryPlan_25 : decode prog_1_method_56_code 25 = .ok (.getfield 60, 3) := ge_getfield (by decide +kernel)
theorem d_X11_tryPlan_28 : decode prog_1_method_56_code 28 = .ok (.getfield 250, 3) := ge_getfield (by decide +kernel)
theorem d_X11_tryPlan_31 : decode prog_1_method_56_code 31 = .ok (.iload_n 2, 1) := ge_iload_n_2 (by decide +kernel)
theorem d_X11_tryPlan_32 : decode prog_1_method_56_code 32 = .ok (.iconst 0, 1) := ge_iconst_0 (by decide +kernel)
theorem d_X11_tryPlan_33 : decode prog_1_method_56_code 33 = .ok (.invokevirtual 262, 3) := ge_invokevirtual (by decide +kernel)
theorem d_X11_tryPlan_36 : decode prog_1_method_56_code 36 = .ok (.istore_n 3, 1) := ge_istore_n_3 (by decide +kernel)
theorem d_X11_tryPlan_37 : decode prog_1_method_56_code 37 = .ok (.iload_n 3, 1) := ge_iload_n_3 (by decide +kernel)
theorem d_X11_tryPlan_38 : decode prog_1_method_56_code 38 = .ok (.ifCond .ne 17, 3) := ge_ifCond_ne (by decide +kernel)
theorem d_X11_tryPlan_41 : decode prog_1_method_56_code 41 = .ok (.aload_n 0, 1) := ge_aload_n_0 (by decide +kernel)
theorem d_X11_tryPlan_42 : decode prog_1_method_56_code 42 = .ok (.getfield 72, 3) := ge_getfield (by decide +kernel)
theorem d_X11_tryPlan_45 : decode prog_1_method_56_code 45 = .ok (.iload_n 1, 1) := ge_iload_n_1 (by decide +kernel)
theorem d_X11_tryPlan_46 : decode prog_1_method_56_code 46 = .ok (.invokevirtual 179, 3) := ge_invokevirtual (by decide +kernel)
theorem d_X11_tryPlan_49 : decode prog_1_method_56_code 49 = .ok (.iinc 1 1, 3) := ge_iinc (by decide +kernel)
theorem d_X11_tryPlan_52 : decode prog_1_method_56_code 52 = .ok (.goto 31, 3) := ge_goto (by decide +kernel)
theorem d_X11_tryPlan_55 : decode prog_1_method_56_code 55 = .ok (.aload_n 0, 1) := ge_aload_n_0 (by decide +kernel)
theorem d_X11_tryPlan_56 : decode prog_1_method_56_code 56 = .ok (.getfield 60, 3) := ge_getfield (by decide +kernel)
theorem d_X11_tryPlan_59 : decode prog_1_method_56_code 59 = .ok (.getfield 250, 3) := ge_getfield (by decide +kernel)
theorem d_X11_tryPlan_62 : decode prog_1_method_56_code 62 = .ok (.iload_n 2, 1) := ge_iload_n_2 (by decide +kernel)
theorem d_X11_tryPlan_63 : decode prog_1_method_56_code 63 = .ok (.iconst 1, 1) := ge_iconst_1 (by decide +kernel)
theorem d_X11_tryPlan_64 : decode prog_1_method_56_code 64 = .ok (.invokevirtual 262, 3) := ge_invokevirtual (by decide +kernel)
theorem d_X11_tryPlan_67 : decode prog_1_method_56_code 67 = .ok (.aload_n 0, 1) := ge_aload_n_0 (by decide +kernel)
theorem d_X11_tryPlan_68 : decode prog_1_method_56_code 68 = .ok (.getfield 72, 3) := ge_getfield (by decide +kernel)
theorem d_X11_tryPlan_71 : decode prog_1_method_56_code 71 = .ok (.getfield 301, 3) := ge_getfield (by decide +kernel)
theorem d_X11_tryPlan_74 : decode prog_1_method_56_code 74 = .ok (.if_icmp .ne 9, 3) := ge_if_icmp_ne (by decide +kernel)
theorem d_X11_tryPlan_77 : decode prog_1_method_56_code 77 = .ok (.aload_n 0, 1) := ge_aload_n_0 (by decide +kernel)
theorem d_X11_tryPlan_78 : decode prog_1_method_56_code 78 = .ok (.iload_n 3, 1) := ge_iload_n_3 (by decide +kernel)
theorem d_X11_tryPlan_79 : decode prog_1_method_56_code 79 = .ok (.iload_n 1, 1) := ge_iload_n_1 (by decide +kernel)
theorem d_X11_tryPlan_80 : decode prog_1_method_56_code 80 = .ok (.invokevirtual 302, 3) := ge_invokevirtual (by decide +kernel)
theorem d_X11_tryPlan_83 : decode prog_1_method_56_code 83 = .ok (.iinc 2 1, 3) := ge_iinc (by decide +kernel)
theorem d_X11_tryPlan_86 : decode prog_1_method_56_code 86 = .ok (.goto (-76), 3) := ge_goto (by decide +kernel)
theorem d_X11_tryPlan_89 : decode prog_1_method_56_code 89 = .ok (.return_, 1) := ge_return_ (by decide +kernel)
def f_X11_tryPlan (a0 : Nat) (μ : gm_M) : Option (Option Value × gm_M) := gm_gR μ [16] a0 1 (fun v1 => gm_gI μ [13] v1 0 (fun v2 => gm_loop (fun (s3 : Int32 × Int32 × gm_M) => gm_gR s3.2.2 [16] a0 1 (fun v4 => gm_gR s3.2.2 [13] v4 8 (fun v5 => gm_gI s3.2.2 [12] v5 2 (fun v6 => if v6 ≤ s3.2.1 then some (Sum.inr (none, s3.2.2)) else gm_gR s3.2.2 [16] a0 1 (fun v7 => gm_gR s3.2.2 [13] v7 8 (fun v8 => if gm_tag s3.2.2 v8 = 12 then gm_bI (f_X7_cell v8 s3.2.1 (0 : Int32) s3.2.2) (fun x10 m9 => gm_j (fun (s11 : Int32 × gm_M) => some (Sum.inl (s11.1, (s3.2.1 + (1 : Int32)), s11.2))) (fun j12 => if x10 ≠ 0 then gm_gR m9 [16] a0 1 (fun v13 => gm_gR m9 [13] v13 8 (fun v14 => if gm_tag m9 v14 = 12 then gm_bI (f_X7_cell v14 s3.2.1 (1 : Int32) m9) (fun x16 m15 => gm_gR m15 [16] a0 5 (fun v17 => gm_gI m15 [7] v17 0 (fun v18 => if x16 ≠ v18 then j12 (s3.1, m15) else if gm_tag m15 a0 = 16 then gm_bV (f_X11_tryPlanRow a0 x10 s3.1 m15) (fun m19 => j12 (s3.1, m19)) else none))) else none)) else gm_gR m9 [16] a0 5 (fun v21 => if gm_tag m9 v21 = 7 then gm_bV (f_X2_passMinute v21 s3.1 m9) (fun m22 => j12 ((s3.1 + (1 : Int32)), m22)) else none))) else none)))))) 5000 (v2, (0 : Int32), μ)))
set_option maxHeartbeats 4000000 in
theorem c_X11_tryPlan (a0 : Nat) (μ : gm_M) : gm_Call ({ cls := "GumBubble", name := "tryPlan", desc := "()V" } : Jvm.MethodName) prog_1_method_56_code 4 none 5 0 0 [.ref a0] μ (f_X11_tryPlan a0 μ) := by
  refine gm_start PN_11 (Nat.le_of_ble_eq_true rfl) (fun res μe => ?_)
  unfold f_X11_tryPlan
  show gm_A "GumBubble" (gm_nm "tryPlan") _ _ _ _ _ _ _ _ _ 0 [(0, .ref a0)] [] _ _
  refine gm_aload_n d_X11_tryPlan_0 rfl 0 rfl ?_
  refine gm_getR F_11_now gw_262 d_X11_tryPlan_1 (fun v1 _ => ?_)
  refine gm_getI F_8_minute gw_219 d_X11_tryPlan_4 (fun v2 _ => ?_)
  refine gm_istore_n (L' := [(1, .int v2), (0, .ref a0)]) d_X11_tryPlan_7 rfl (Nat.le_of_ble_eq_true rfl) rfl ?_
  refine gm_iconst (v := 0) d_X11_tryPlan_8 (by decide) ?_
  refine gm_istore_n (L' := [(2, .int (0 : Int32)), (1, .int v2), (0, .ref a0)]) d_X11_tryPlan_9 rfl (Nat.le_of_ble_eq_true rfl) rfl ?_
  refine gm_sub (L' := [(0, .ref a0), (1, .int v2), (2, .int (0 : Int32))]) [2, 1, 0] rfl ?_
  refine gm_lp (S := Int32 × Int32 × gm_M) (fun _ => 0) (fun _ => 0) (fun s3 => s3.2.2) (fun s3 => [(0, .ref a0), (1, .int s3.1), (2, .int s3.2.1)]) (fun _ => []) (fun s3 => ?_) 5000 (v2, (0 : Int32), μ)
  refine gm_iload_n d_X11_tryPlan_10 rfl 2 rfl ?_
  refine gm_aload_n d_X11_tryPlan_11 rfl 0 rfl ?_
  refine gm_getR F_11_now gw_262 d_X11_tryPlan_12 (fun v4 _ => ?_)
  refine gm_getR F_8_plan gw_235 d_X11_tryPlan_15 (fun v5 _ => ?_)
  refine gm_getI F_7_count gw_43 d_X11_tryPlan_18 (fun v6 _ => ?_)
  refine gm_icmp_ge (tgt := 89) d_X11_tryPlan_21 (by decide) (fun h21 => ?_) (fun h21 => ?_)
  ·
    exact gm_vret rfl d_X11_tryPlan_89 (Nat.le_of_ble_eq_true rfl) (Nat.le_of_ble_eq_true rfl) (fun h => h)
  ·
    refine gm_aload_n d_X11_tryPlan_24 rfl 0 rfl ?_
    refine gm_getR F_11_now gw_262 d_X11_tryPlan_25 (fun v7 _ => ?_)
    refine gm_getR F_8_plan gw_235 d_X11_tryPlan_28 (fun v8 _ => ?_)
    refine gm_iload_n d_X11_tryPlan_31 rfl 2 rfl ?_
    refine gm_iconst (v := 0) d_X11_tryPlan_32 (by decide) ?_
    refine gm_grd (fun g33 => ?_)
    refine gm_callV (k0 := 7) [.int s3.2.1, .int (0 : Int32)] (c_X7_cell v8 s3.2.1 (0 : Int32) s3.2.2) g33 rfl B_X7_cell gw_734 gw_736 rfl rfl rfl d_X11_tryPlan_33 (gm_kI (fun x10 m9 => ?_))
    refine gm_istore_n (L' := [(3, .int x10), (0, .ref a0), (1, .int s3.1), (2, .int s3.2.1)]) d_X11_tryPlan_36 rfl (Nat.le_of_ble_eq_true rfl) rfl ?_
    refine gm_iload_n d_X11_tryPlan_37 rfl 0 rfl ?_
    refine gm_join (S := Int32 × gm_M) (pj := 83) (kj := 0) (nj := 0) (fun s11 => s11.2) (fun s11 => [(0, .ref a0), (1, .int s11.1), (2, .int s3.2.1), (3, .int x10)]) (fun s11 => []) (fun s11 => ?_) (fun j12 hj12 => ?_)
    ·
      refine gm_iinc (v := s3.2.1 + (1 : Int32)) (L' := [(2, .int (s3.2.1 + (1 : Int32))), (0, .ref a0), (1, .int s11.1), (3, .int x10)]) d_X11_tryPlan_83 2 rfl rfl (Nat.le_of_ble_eq_true rfl) rfl ?_
      refine gm_goto (tgt := 10) d_X11_tryPlan_86 (by decide) ?_
      refine gm_sub (L' := [(0, .ref a0), (1, .int s11.1), (2, .int (s3.2.1 + (1 : Int32)))]) [1, 2, 0] rfl ?_
      exact gm_back (fun h => h)
    ·
      refine gm_if_ne (tgt := 55) d_X11_tryPlan_38 (by decide) (fun h38 => ?_) (fun h38 => ?_)
      ·
        refine gm_aload_n d_X11_tryPlan_55 rfl 1 rfl ?_
        refine gm_getR F_11_now gw_262 d_X11_tryPlan_56 (fun v13 _ => ?_)
        refine gm_getR F_8_plan gw_235 d_X11_tryPlan_59 (fun v14 _ => ?_)
        refine gm_iload_n d_X11_tryPlan_62 rfl 3 rfl ?_
        refine gm_iconst (v := 1) d_X11_tryPlan_63 (by decide) ?_
        refine gm_grd (fun g64 => ?_)
        refine gm_callV (k0 := 7) [.int s3.2.1, .int (1 : Int32)] (c_X7_cell v14 s3.2.1 (1 : Int32) m9) g64 rfl B_X7_cell gw_734 gw_736 rfl rfl rfl d_X11_tryPlan_64 (gm_kI (fun x16 m15 => ?_))
        refine gm_aload_n d_X11_tryPlan_67 rfl 1 rfl ?_
        refine gm_getR F_11_trial gw_266 d_X11_tryPlan_68 (fun v17 _ => ?_)
        refine gm_getI F_2_number gw_170 d_X11_tryPlan_71 (fun v18 _ => ?_)
        refine gm_icmp_ne (tgt := 83) d_X11_tryPlan_74 (by decide) (fun h74 => ?_) (fun h74 => ?_)
        ·
          refine gm_sub (L' := [(0, .ref a0), (1, .int s3.1), (2, .int s3.2.1), (3, .int x10)]) [1, 2, 3, 0] rfl ?_
          exact hj12 (s3.1, m15)
        ·
          refine gm_aload_n d_X11_tryPlan_77 rfl 1 rfl ?_
          refine gm_iload_n d_X11_tryPlan_78 rfl 0 rfl ?_
          refine gm_iload_n d_X11_tryPlan_79 rfl 2 rfl ?_
          refine gm_grd (fun g80 => ?_)
          refine gm_callV (k0 := 11) [.int x10, .int s3.1] (c_X11_tryPlanRow a0 x10 s3.1 m15) g80 rfl B_X11_tryPlanRow gw_762 gs_24 rfl rfl rfl d_X11_tryPlan_80 (gm_kV (fun m19 => ?_))
          refine gm_sub (L' := [(0, .ref a0), (1, .int s3.1), (2, .int s3.2.1), (3, .int x10)]) [1, 2, 3, 0] rfl ?_
          exact hj12 (s3.1, m19)
      ·
        refine gm_aload_n d_X11_tryPlan_41 rfl 1 rfl ?_
        refine gm_getR F_11_trial gw_266 d_X11_tryPlan_42 (fun v21 _ => ?_)
        refine gm_iload_n d_X11_tryPlan_45 rfl 2 rfl ?_
        refine gm_grd (fun g46 => ?_)
        refine gm_callV (k0 := 2) [.int s3.1] (c_X2_passMinute v21 s3.1 m9) g46 rfl B_X2_passMinute gw_596 gw_598 rfl rfl rfl d_X11_tryPlan_46 (gm_kV (fun m22 => ?_))
        refine gm_iinc (v := s3.1 + (1 : Int32)) (L' := [(1, .int (s3.1 + (1 : Int32))), (3, .int x10), (0, .ref a0), (2, .int s3.2.1)]) d_X11_tryPlan_49 2 rfl rfl (Nat.le_of_ble_eq_true rfl) rfl ?_
        refine gm_goto (tgt := 83) d_X11_tryPlan_52 (by decide) ?_
        refine gm_sub (L' := [(0, .ref a0), (1, .int (s3.1 + (1 : Int32))), (2, .int s3.2.1), (3, .int x10)]) [2, 0, 3, 1] rfl ?_
        exact hj12 ((s3.1 + (1 : Int32)), m22)
theorem d_X2_copy_0 : decode prog_4_method_3_code 0 = .ok (.aload_n 0, 1) := ge_aload_n_0 (by decide +kernel)
theorem d_X2_copy_1 : decode prog_4_method_3_code 1 = .ok (.aload_n 1, 1) := ge_aload_n_1 (by decide +kernel)
theorem d_X2_copy_2 : decode prog_4_method_3_code 2 = .ok (.getfield 15, 3) := ge_getfield (by decide +kernel)
theorem d_X2_copy_5 : decode prog_4_method_3_code 5 = .ok (.putfield 15, 3) := ge_putfield (by decide +kernel)
theorem d_X2_copy_8 : decode prog_4_method_3_code 8 = .ok (.aload_n 0, 1) := ge_aload_n_0 (by decide +kernel)
theorem d_X2_copy_9 : decode prog_4_method_3_code 9 = .ok (.aload_n 1, 1) := ge_aload_n_1 (by decide +kernel)
theorem d_X2_copy_10 : decode prog_4_method_3_code 10 = .ok (.getfield 19, 3) := ge_getfield (by decide +kernel)
theorem d_X2_copy_13 : decode prog_4_method_3_code 13 = .ok (.putfield 19, 3) := ge_putfield (by decide +kernel)
theorem d_X2_copy_16 : decode prog_4_method_3_code 16 = .ok (.aload_n 0, 1) := ge_aload_n_0 (by decide +kernel)
theorem d_X2_copy_17 : decode prog_4_method_3_code 17 = .ok (.aload_n 1, 1) := ge_aload_n_1 (by decide +kernel)
theorem d_X2_copy_18 : decode prog_4_method_3_code 18 = .ok (.getfield 23, 3) := ge_getfield (by decide +kernel)
theorem d_X2_copy_21 : decode prog_4_method_3_code 21 = .ok (.putfield 23, 3) := ge_putfield (by decide +kernel)
theorem d_X2_copy_24 : decode prog_4_method_3_code 24 = .ok (.aload_n 0, 1) := ge_aload_n_0 (by decide +kernel)
theorem d_X2_copy_25 : decode prog_4_method_3_code 25 = .ok (.aload_n 1, 1) := ge_aload_n_1 (by decide +kernel)
theorem d_X2_copy_26 : decode prog_4_method_3_code 26 = .ok (.getfield 26, 3) := ge_getfield (by decide +kernel)
theorem d_X2_copy_29 : decode prog_4_method_3_code 29 = .ok (.putfield 26, 3) := ge_putfield (by decide +kernel)
theorem d_X2_copy_32 : decode prog_4_method_3_code 32 = .ok (.aload_n 0, 1) := ge_aload_n_0 (by decide +kernel)
theorem d_X2_copy_33 : decode prog_4_method_3_code 33 = .ok (.aload_n 1, 1) := ge_aload_n_1 (by decide +kernel)
theorem d_X2_copy_34 : decode prog_4_method_3_code 34 = .ok (.getfield 29, 3) := ge_getfield (by decide +kernel)
theorem d_X2_copy_37 : decode prog_4_method_3_code 37 = .ok (.putfield 29, 3) := ge_putfield (by decide +kernel)
theorem d_X2_copy_40 : decode prog_4_method_3_code 40 = .ok (.aload_n 0, 1) := ge_aload_n_0 (by decide +kernel)
theorem d_X2_copy_41 : decode prog_4_method_3_code 41 = .ok (.aload_n 1, 1) := ge_aload_n_1 (by decide +kernel)
theorem d_X2_copy_42 : decode prog_4_method_3_code 42 = .ok (.getfield 32, 3) := ge_getfield (by decide +kernel)
theorem d_X2_copy_45 : decode prog_4_method_3_code 45 = .ok (.putfield 32, 3) := ge_putfield (by decide +kernel)
theorem d_X2_copy_48 : decode prog_4_method_3_code 48 = .ok (.aload_n 0, 1) := ge_aload_n_0 (by decide +kernel)
theorem d_X2_copy_49 : decode prog_4_method_3_code 49 = .ok (.aload_n 1, 1) := ge_aload_n_1 (by decide +kernel)
theorem d_X2_copy_50 : decode prog_4_method_3_code 50 = .ok (.getfield 35, 3) := ge_getfield (by decide +kernel)
theorem d_X2_copy_53 : decode prog_4_method_3_code 53 = .ok (.putfield 35, 3) := ge_putfield (by decide +kernel)
theorem d_X2_copy_56 : decode prog_4_method_3_code 56 = .ok (.aload_n 0, 1) := ge_aload_n_0 (by decide +kernel)
theorem d_X2_copy_57 : decode prog_4_method_3_code 57 = .ok (.aload_n 1, 1) := ge_aload_n_1 (by decide +kernel)
theorem d_X2_copy_58 : decode prog_4_method_3_code 58 = .ok (.getfield 38, 3) := ge_getfield (by decide +kernel)
theorem d_X2_copy_61 : decode prog_4_method_3_code 61 = .ok (.putfield 38, 3) := ge_putfield (by decide +kernel)
theorem d_X2_copy_64 : decode prog_4_method_3_code 64 = .ok (.aload_n 1, 1) := ge_aload_n_1 (by decide +kernel)
theorem d_X2_copy_65 : decode prog_4_method_3_code 65 = .ok (.getfield 9, 3) := ge_getfield (by decide +kernel)
theorem d_X2_copy_68 : decode prog_4_method_3_code 68 = .ok (.iconst 0, 1) := ge_iconst_0 (by decide +kernel)
theorem d_X2_copy_69 : decode prog_4_method_3_code 69 = .ok (.aload_n 0, 1) := ge_aload_n_0 (by decide +kernel)
theorem d_X2_copy_70 : decode prog_4_method_3_code 70 = .ok (.getfield 9, 3) := ge_getfield (by decide +kernel)
theorem d_X2_copy_73 : decode prog_4_method_3_code 73 = .ok (.iconst 0, 1) := ge_iconst_0 (by decide +kernel)
theorem d_X2_copy_74 : decode prog_4_method_3_code 74 = .ok (.aload_n 0, 1) := ge_aload_n_0 (by decide +kernel)
theorem d_X2_copy_75 : decode prog_4_method_3_code 75 = .ok (.getfield 9, 3) := ge_getfield (by decide +kernel)
theorem d_X2_copy_78 : decode prog_4_method_3_code 78 = .ok (.arraylength, 1) := ge_arraylength (by decide +kernel)
theorem d_X2_copy_79 : decode prog_4_method_3_code 79 = .ok (.invokestatic 41, 3) := ge_invokestatic (by decide +kernel)
theorem d_X2_copy_82 : decode prog_4_method_3_code 82 = .ok (.return_, 1) := ge_return_ (by decide +kernel)
def f_X2_copy (a0 : Nat) (a1 : Nat) (μ : gm_M) : Option (Option Value × gm_M) := gm_gI μ [7] a1 0 (fun v1 => gm_pI μ [7] a0 0 v1 (fun m2 => gm_gR m2 [7] a1 1 (fun v3 => gm_pR m2 [7] a0 1 v3 (fun m4 => gm_gI m4 [7] a1 2 (fun v5 => gm_pI m4 [7] a0 2 v5 (fun m6 => gm_gI m6 [7] a1 3 (fun v7 => gm_pI m6 [7] a0 3 v7 (fun m8 => gm_gI m8 [7] a1 4 (fun v9 => gm_pI m8 [7] a0 4 v9 (fun m10 => gm_gI m10 [7] a1 5 (fun v11 => gm_pI m10 [7] a0 5 v11 (fun m12 => gm_gI m12 [7] a1 6 (fun v13 => gm_pI m12 [7] a0 6 v13 (fun m14 => gm_gI m14 [7] a1 7 (fun v15 => gm_pI m14 [7] a0 7 v15 (fun m16 => gm_gR m16 [7] a1 8 (fun v17 => gm_gR m16 [7] a0 8 (fun v18 => gm_gR m16 [7] a0 8 (fun v19 => gm_al m16 1 v19 (fun v20 => gm_cp m16 v17 (0 : Int32) v18 (0 : Int32) v20 (fun m21 => some (none, m21))))))))))))))))))))))
set_option maxHeartbeats 4000000 in
theorem c_X2_copy (a0 : Nat) (a1 : Nat) (μ : gm_M) : gm_Call ({ cls := "GumBubble$Child", name := "copy", desc := "(LGumBubble$Child;)V" } : Jvm.MethodName) prog_4_method_3_code 2 none 1 0 0 [.ref a0, .ref a1] μ (f_X2_copy a0 a1 μ) := by
  refine gm_start PN_2 (Nat.le_of_ble_eq_true rfl) (fun res μe => ?_)
  unfold f_X2_copy
  show gm_A "GumBubble$Child" (gm_nm "copy") _ _ _ _ _ _ _ _ _ 0 [(0, .ref a0), (1, .ref a1)] [] _ _
  refine gm_aload_n d_X2_copy_0 rfl 0 rfl ?_
  refine gm_aload_n d_X2_copy_1 rfl 1 rfl ?_
  refine gm_getI F_2_number gw_166 d_X2_copy_2 (fun v1 _ => ?_)
  refine gm_putI F_2_number (Or.inl rfl) gw_166 d_X2_copy_5 (fun m2 _ => ?_)
  refine gm_aload_n d_X2_copy_8 rfl 0 rfl ?_
  refine gm_aload_n d_X2_copy_9 rfl 1 rfl ?_
  refine gm_getR F_2_kind gw_171 d_X2_copy_10 (fun v3 _ => ?_)
  refine gm_putR F_2_kind (Or.inl rfl) gw_171 d_X2_copy_13 (fun m4 _ => ?_)
  refine gm_aload_n d_X2_copy_16 rfl 0 rfl ?_
  refine gm_aload_n d_X2_copy_17 rfl 1 rfl ?_
  refine gm_getI F_2_v gw_175 d_X2_copy_18 (fun v5 _ => ?_)
  refine gm_putI F_2_v (Or.inl rfl) gw_175 d_X2_copy_21 (fun m6 _ => ?_)
  refine gm_aload_n d_X2_copy_24 rfl 0 rfl ?_
  refine gm_aload_n d_X2_copy_25 rfl 1 rfl ?_
  refine gm_getI F_2_pieces gw_180 d_X2_copy_26 (fun v7 _ => ?_)
  refine gm_putI F_2_pieces (Or.inl rfl) gw_180 d_X2_copy_29 (fun m8 _ => ?_)
  refine gm_aload_n d_X2_copy_32 rfl 0 rfl ?_
  refine gm_aload_n d_X2_copy_33 rfl 1 rfl ?_
  refine gm_getI F_2_sugar gw_187 d_X2_copy_34 (fun v9 _ => ?_)
  refine gm_putI F_2_sugar (Or.inl rfl) gw_187 d_X2_copy_37 (fun m10 _ => ?_)
  refine gm_aload_n d_X2_copy_40 rfl 0 rfl ?_
  refine gm_aload_n d_X2_copy_41 rfl 1 rfl ?_
  refine gm_getI F_2_jaw gw_190 d_X2_copy_42 (fun v11 _ => ?_)
  refine gm_putI F_2_jaw (Or.inl rfl) gw_190 d_X2_copy_45 (fun m12 _ => ?_)
  refine gm_aload_n d_X2_copy_48 rfl 0 rfl ?_
  refine gm_aload_n d_X2_copy_49 rfl 1 rfl ?_
  refine gm_getI F_2_bubble gw_192 d_X2_copy_50 (fun v13 _ => ?_)
  refine gm_putI F_2_bubble (Or.inl rfl) gw_192 d_X2_copy_53 (fun m14 _ => ?_)
  refine gm_aload_n d_X2_copy_56 rfl 0 rfl ?_
  refine gm_aload_n d_X2_copy_57 rfl 1 rfl ?_
  refine gm_getI F_2_hair gw_194 d_X2_copy_58 (fun v15 _ => ?_)
  refine gm_putI F_2_hair (Or.inl rfl) gw_194 d_X2_copy_61 (fun m16 _ => ?_)
  refine gm_aload_n d_X2_copy_64 rfl 1 rfl ?_
  refine gm_getR F_2_row gw_196 d_X2_copy_65 (fun v17 _ => ?_)
  refine gm_iconst (v := 0) d_X2_copy_68 (by decide) ?_
  refine gm_aload_n d_X2_copy_69 rfl 0 rfl ?_
  refine gm_getR F_2_row gw_196 d_X2_copy_70 (fun v18 _ => ?_)
  refine gm_iconst (v := 0) d_X2_copy_73 (by decide) ?_
  refine gm_aload_n d_X2_copy_74 rfl 0 rfl ?_
  refine gm_getR F_2_row gw_196 d_X2_copy_75 (fun v19 _ => ?_)
  refine gm_alen (Or.inl rfl) d_X2_copy_78 (fun v20 _ => ?_)
  refine gm_copy gw_589 gw_591 gw_590 gw_20 (Nat.le_of_ble_eq_true rfl) (Nat.le_of_ble_eq_true rfl) rfl d_X2_copy_79 (fun m21 _ => ?_)
  exact gm_vret rfl d_X2_copy_82 (Nat.le_of_ble_eq_true rfl) (Nat.le_of_ble_eq_true rfl) (fun h => h)
end
section
theorem d_X11_done_0 : decode prog_1_method_30_code 0 = .ok (.iload_n 1, 1) := ge_iload_n_1 (by decide +kernel)
theorem d_X11_done_1 : decode prog_1_method_30_code 1 = .ok (.iconst 0, 1) := ge_iconst_0 (by decide +kernel)
theorem d_X11_done_2 : decode prog_1_method_30_code 2 = .ok (.iconst 1, 1) := ge_iconst_1 (by decide +kernel)
theorem d_X11_done_3 : decode prog_1_method_30_code 3 = .ok (.invokestatic 76, 3) := ge_invokestatic (by decide +kernel)
theorem d_X11_done_6 : decode prog_1_method_30_code 6 = .ok (.ifCond .eq 5, 3) := ge_ifCond_eq (by decide +kernel)
theorem d_X11_done_9 : decode prog_1_method_30_code 9 = .ok (.iconst (-1), 1) := ge_iconst_m1_ (by decide +kernel)
theorem d_X11_done_10 : decode prog_1_method_30_code 10 = .ok (.ireturn, 1) := ge_ireturn (by decide +kernel)
theorem d_X11_done_11 : decode prog_1_method_30_code 11 = .ok (.iconst 0, 1) := ge_iconst_0 (by decide +kernel)
theorem d_X11_done_12 : decode prog_1_method_30_code 12 = .ok (.istore_n 2, 1) := ge_istore_n_2 (by decide +kernel)
theorem d_X11_done_13 : decode prog_1_method_30_code 13 = .ok (.iconst 0, 1) := ge_iconst_0 (by decide +kernel)
theorem d_X11_done_14 : decode prog_1_method_30_code 14 = .ok (.istore_n 3, 1) := ge_istore_n_3 (by decide +kernel)
theorem d_X11_done_15 : decode prog_1_method_30_code 15 = .ok (.iload_n 3, 1) := ge_iload_n_3 (by decide +kernel)
theorem d_X11_done_16 : decode prog_1_method_30_code 16 = .ok (.aload_n 0, 1) := ge_aload_n_0 (by decide +kernel)
theorem d_X11_done_17 : decode prog_1_method_30_code 17 = .ok (.getfield 60, 3) := ge_getfield (by decide +kernel)
theorem d_X11_done_20 : decode prog_1_method_30_code 20 = .ok (.getfield 101, 3) := ge_getfield (by decide +kernel)
theorem d_X11_done_23 : decode prog_1_method_30_code 23 = .ok (.if_icmp .ge 66, 3) := ge_if_icmp_ge (by decide +kernel)
theorem d_X11_done_26 : decode prog_1_method_30_code 26 = .ok (.aload_n 0, 1) := ge_aload_n_0 (by decide +kernel)
theorem d_X11_done_27 : decode prog_1_method_30_code 27 = .ok (.getfield 72, 3) := ge_getfield (by decide +kernel)
theorem d_X11_done_30 : decode prog_1_method_30_code 30 = .ok (.aload_n 0, 1) := ge_aload_n_0 (by decide +kernel)
theorem d_X11_done_31 : decode prog_1_method_30_code 31 = .ok (.getfield 60, 3) := ge_getfield (by decide +kernel)
theorem d_X11_done_34 : decode prog_1_method_30_code 34 = .ok (.getfield 104, 3) := ge_getfield (by decide +kernel)
theorem d_X11_done_37 : decode prog_1_method_30_code 37 = .ok (.iload_n 3, 1) := ge_iload_n_3 (by decide +kernel)
theorem d_X11_done_38 : decode prog_1_method_30_code 38 = .ok (.aaload, 1) := ge_aaload (by decide +kernel)
theorem d_X11_done_39 : decode prog_1_method_30_code 39 = .ok (.invokevirtual 186, 3) := ge_invokevirtual (by decide +kernel)
theorem d_X11_done_42 : decode prog_1_method_30_code 42 = .ok (.aload_n 0, 1) := ge_aload_n_0 (by decide +kernel)
theorem d_X11_done_43 : decode prog_1_method_30_code 43 = .ok (.invokevirtual 253, 3) := ge_invokevirtual (by decide +kernel)
theorem d_X11_done_46 : decode prog_1_method_30_code 46 = .ok (.iload_n 2, 1) := ge_iload_n_2 (by decide +kernel)
theorem d_X11_done_47 : decode prog_1_method_30_code 47 = .ok (.iload_n 1, 1) := ge_iload_n_1 (by decide +kernel)
theorem d_X11_done_48 : decode prog_1_method_30_code 48 = .ok (.ifCond .ne 13, 3) := ge_ifCond_ne (by decide +kernel)
theorem d_X11_done_51 : decode prog_1_method_30_code 51 = .ok (.aload_n 0, 1) := ge_aload_n_0 (by decide +kernel)
theorem d_X11_done_52 : decode prog_1_method_30_code 52 = .ok (.getfield 72, 3) := ge_getfield (by decide +kernel)
theorem d_X11_done_55 : decode prog_1_method_30_code 55 = .ok (.getfield 138, 3) := ge_getfield (by decide +kernel)
theorem d_X11_done_58 : decode prog_1_method_30_code 58 = .ok (.goto 23, 3) := ge_goto (by decide +kernel)
theorem d_X11_done_61 : decode prog_1_method_30_code 61 = .ok (.aload_n 0, 1) := ge_aload_n_0 (by decide +kernel)
theorem d_X11_done_62 : decode prog_1_method_30_code 62 = .ok (.getfield 72, 3) := ge_getfield (by decide +kernel)
theorem d_X11_done_65 : decode prog_1_method_30_code 65 = .ok (.getfield 141, 3) := ge_getfield (by decide +kernel)
theorem d_X11_done_68 : decode prog_1_method_30_code 68 = .ok (.aload_n 0, 1) := ge_aload_n_0 (by decide +kernel)
theorem d_X11_done_69 : decode prog_1_method_30_code 69 = .ok (.getfield 60, 3) := ge_getfield (by decide +kernel)
theorem d_X11_done_72 : decode prog_1_method_30_code 72 = .ok (.getfield 104, 3) := ge_getfield (by decide +kernel)
theorem d_X11_done_75 : decode prog_1_method_30_code 75 = .ok (.iload_n 3, 1) := ge_iload_n_3 (by decide +kernel)
theorem d_X11_done_76 : decode prog_1_method_30_code 76 = .ok (.aaload, 1) := ge_aaload (by decide +kernel)
theorem d_X11_done_77 : decode prog_1_method_30_code 77 = .ok (.getfield 141, 3) := ge_getfield (by decide +kernel)
theorem d_X11_done_80 : decode prog_1_method_30_code 80 = .ok (.isub, 1) := ge_isub (by decide +kernel)
theorem d_X11_done_81 : decode prog_1_method_30_code 81 = .ok (.iadd, 1) := ge_iadd (by decide +kernel)
theorem d_X11_done_82 : decode prog_1_method_30_code 82 = .ok (.istore_n 2, 1) := ge_istore_n_2 (by decide +kernel)
theorem d_X11_done_83 : decode prog_1_method_30_code 83 = .ok (.iinc 3 1, 3) := ge_iinc (by decide +kernel)
theorem d_X11_done_86 : decode prog_1_method_30_code 86 = .ok (.goto (-71), 3) := ge_goto (by decide +kernel)
theorem d_X11_done_89 : decode prog_1_method_30_code 89 = .ok (.iload_n 2, 1) := ge_iload_n_2 (by decide +kernel)
theorem d_X11_done_90 : decode prog_1_method_30_code 90 = .ok (.ireturn, 1) := ge_ireturn (by decide +kernel)
def f_X11_done (a0 : Nat) (a1 : Int32) (μ : gm_M) : Option (Option Value × gm_M) := gm_bI (f_X11_isOutside a1 (0 : Int32) (1 : Int32) μ) (fun x2 m1 => if x2 = 0 then gm_loop (fun (s3 : Int32 × Int32 × gm_M) => gm_gR s3.2.2 [16] a0 1 (fun v4 => gm_gI s3.2.2 [13] v4 1 (fun v5 => if v5 ≤ s3.2.1 then some (Sum.inr (some (.int s3.1), s3.2.2)) else gm_gR s3.2.2 [16] a0 5 (fun v6 => gm_gR s3.2.2 [16] a0 1 (fun v7 => gm_gR s3.2.2 [13] v7 2 (fun v8 => gm_aR s3.2.2 4 v8 s3.2.1 (fun v9 => if gm_tag s3.2.2 v6 = 7 then gm_bV (f_X2_copy v6 v9 s3.2.2) (fun m10 => if gm_tag m10 a0 = 16 then gm_bV (f_X11_tryPlan a0 m10) (fun m12 => gm_j (fun (s14 : Int32) => some (Sum.inl ((s3.1 + s14), (s3.2.1 + (1 : Int32)), m12))) (fun j15 => if a1 ≠ 0 then gm_gR m12 [16] a0 5 (fun v16 => gm_gI m12 [7] v16 7 (fun v17 => gm_gR m12 [16] a0 1 (fun v18 => gm_gR m12 [13] v18 2 (fun v19 => gm_aR m12 4 v19 s3.2.1 (fun v20 => gm_gI m12 [7] v20 7 (fun v21 => j15 (v17 - v21))))))) else gm_gR m12 [16] a0 5 (fun v22 => gm_gI m12 [7] v22 6 (fun v23 => j15 v23)))) else none) else none))))))) 5000 ((0 : Int32), (0 : Int32), m1) else some (some (.int (-1 : Int32)), m1))
set_option maxHeartbeats 4000000 in
theorem c_X11_done (a0 : Nat) (a1 : Int32) (μ : gm_M) : gm_Call ({ cls := "GumBubble", name := "done", desc := "(I)I" } : Jvm.MethodName) prog_1_method_30_code 4 (some .int) 6 0 0 [.ref a0, .int a1] μ (f_X11_done a0 a1 μ) := by
  refine gm_start PN_11 (Nat.le_of_ble_eq_true rfl) (fun res μe => ?_)
  unfold f_X11_done
  show gm_A "GumBubble" (gm_nm "done") _ _ _ _ _ _ _ _ _ 0 [(0, .ref a0), (1, .int a1)] [] _ _
  refine gm_iload_n d_X11_done_0 rfl 1 rfl ?_
  refine gm_iconst (v := 0) d_X11_done_1 (by decide) ?_
  refine gm_iconst (v := 1) d_X11_done_2 (by decide) ?_
  refine gm_callS [.int a1, .int (0 : Int32), .int (1 : Int32)] (c_X11_isOutside a1 (0 : Int32) (1 : Int32) μ) B_X11_isOutside gw_296 rfl rfl rfl d_X11_done_3 (gm_kI (fun x2 m1 => ?_))
  refine gm_if_eq (tgt := 11) d_X11_done_6 (by decide) (fun h6 => ?_) (fun h6 => ?_)
  ·
    refine gm_iconst (v := 0) d_X11_done_11 (by decide) ?_
    refine gm_istore_n (L' := [(2, .int (0 : Int32)), (0, .ref a0), (1, .int a1)]) d_X11_done_12 rfl (Nat.le_of_ble_eq_true rfl) rfl ?_
    refine gm_iconst (v := 0) d_X11_done_13 (by decide) ?_
    refine gm_istore_n (L' := [(3, .int (0 : Int32)), (2, .int (0 : Int32)), (0, .ref a0), (1, .int a1)]) d_X11_done_14 rfl (Nat.le_of_ble_eq_true rfl) rfl ?_
    refine gm_sub (L' := [(0, .ref a0), (1, .int a1), (2, .int (0 : Int32)), (3, .int (0 : Int32))]) [2, 3, 1, 0] rfl ?_
    refine gm_lp (S := Int32 × Int32 × gm_M) (fun _ => 0) (fun _ => 0) (fun s3 => s3.2.2) (fun s3 => [(0, .ref a0), (1, .int a1), (2, .int s3.1), (3, .int s3.2.1)]) (fun _ => []) (fun s3 => ?_) 5000 ((0 : Int32), (0 : Int32), m1)
    refine gm_iload_n d_X11_done_15 rfl 3 rfl ?_
    refine gm_aload_n d_X11_done_16 rfl 0 rfl ?_
    refine gm_getR F_11_now gw_262 d_X11_done_17 (fun v4 _ => ?_)
    refine gm_getI F_8_size gw_221 d_X11_done_20 (fun v5 _ => ?_)
    refine gm_icmp_ge (tgt := 89) d_X11_done_23 (by decide) (fun h23 => ?_) (fun h23 => ?_)
    ·
      refine gm_iload_n d_X11_done_89 rfl 2 rfl ?_
      exact gm_iret rfl d_X11_done_90 (Nat.le_of_ble_eq_true rfl) (Nat.le_of_ble_eq_true rfl) (fun h => h)
    ·
      refine gm_aload_n d_X11_done_26 rfl 0 rfl ?_
      refine gm_getR F_11_trial gw_266 d_X11_done_27 (fun v6 _ => ?_)
      refine gm_aload_n d_X11_done_30 rfl 0 rfl ?_
      refine gm_getR F_11_now gw_262 d_X11_done_31 (fun v7 _ => ?_)
      refine gm_getR F_8_children gw_223 d_X11_done_34 (fun v8 _ => ?_)
      refine gm_iload_n d_X11_done_37 rfl 3 rfl ?_
      refine gm_aald (Or.inr rfl) d_X11_done_38 (fun v9 _ => ?_)
      refine gm_grd (fun g39 => ?_)
      refine gm_callV (k0 := 2) [.ref v9] (c_X2_copy v6 v9 s3.2.2) g39 rfl B_X2_copy gw_585 gw_587 rfl rfl rfl d_X11_done_39 (gm_kV (fun m10 => ?_))
      refine gm_aload_n d_X11_done_42 rfl 0 rfl ?_
      refine gm_grd (fun g43 => ?_)
      refine gm_callV (k0 := 11) [] (c_X11_tryPlan a0 m10) g43 rfl B_X11_tryPlan gw_758 gs_23 rfl rfl rfl d_X11_done_43 (gm_kV (fun m12 => ?_))
      refine gm_iload_n d_X11_done_46 rfl 2 rfl ?_
      refine gm_iload_n d_X11_done_47 rfl 1 rfl ?_
      refine gm_join (S := Int32) (pj := 81) (kj := 0) (nj := 0) (fun s14 => m12) (fun s14 => [(0, .ref a0), (1, .int a1), (2, .int s3.1), (3, .int s3.2.1)]) (fun s14 => [.int s14, .int s3.1]) (fun s14 => ?_) (fun j15 hj15 => ?_)
      ·
        refine gm_iadd d_X11_done_81 ?_
        refine gm_istore_n (L' := [(2, .int (s3.1 + s14)), (0, .ref a0), (1, .int a1), (3, .int s3.2.1)]) d_X11_done_82 rfl (Nat.le_of_ble_eq_true rfl) rfl ?_
        refine gm_iinc (v := s3.2.1 + (1 : Int32)) (L' := [(3, .int (s3.2.1 + (1 : Int32))), (2, .int (s3.1 + s14)), (0, .ref a0), (1, .int a1)]) d_X11_done_83 3 rfl rfl (Nat.le_of_ble_eq_true rfl) rfl ?_
        refine gm_goto (tgt := 15) d_X11_done_86 (by decide) ?_
        refine gm_sub (L' := [(0, .ref a0), (1, .int a1), (2, .int (s3.1 + s14)), (3, .int (s3.2.1 + (1 : Int32)))]) [2, 3, 1, 0] rfl ?_
        exact gm_back (fun h => h)
      ·
        refine gm_if_ne (tgt := 61) d_X11_done_48 (by decide) (fun h48 => ?_) (fun h48 => ?_)
        ·
          refine gm_aload_n d_X11_done_61 rfl 0 rfl ?_
          refine gm_getR F_11_trial gw_266 d_X11_done_62 (fun v16 _ => ?_)
          refine gm_getI F_2_hair gw_195 d_X11_done_65 (fun v17 _ => ?_)
          refine gm_aload_n d_X11_done_68 rfl 0 rfl ?_
          refine gm_getR F_11_now gw_262 d_X11_done_69 (fun v18 _ => ?_)
          refine gm_getR F_8_children gw_223 d_X11_done_72 (fun v19 _ => ?_)
          refine gm_iload_n d_X11_done_75 rfl 3 rfl ?_
          refine gm_aald (Or.inr rfl) d_X11_done_76 (fun v20 _ => ?_)
          refine gm_getI F_2_hair gw_195 d_X11_done_77 (fun v21 _ => ?_)
          refine gm_isub d_X11_done_80 ?_
          exact hj15 (v17 - v21)
        ·
          refine gm_aload_n d_X11_done_51 rfl 0 rfl ?_
          refine gm_getR F_11_trial gw_266 d_X11_done_52 (fun v22 _ => ?_)
          refine gm_getI F_2_bubble gw_193 d_X11_done_55 (fun v23 _ => ?_)
          refine gm_goto (tgt := 81) d_X11_done_58 (by decide) ?_
          exact hj15 v23
  ·
    refine gm_iconst (v := -1) d_X11_done_9 (by decide) ?_
    exact gm_iret rfl d_X11_done_10 (Nat.le_of_ble_eq_true rfl) (Nat.le_of_ble_eq_true rfl) (fun h => h)
theorem d_X11_feed_0 : decode prog_1_method_2_code 0 = .ok (.iload_n 1, 1) := ge_iload_n_1 (by decide +kernel)
theorem d_X11_feed_1 : decode prog_1_method_2_code 1 = .ok (.iconst 0, 1) := ge_iconst_0 (by decide +kernel)
theorem d_X11_feed_2 : decode prog_1_method_2_code 2 = .ok (.bipush 127, 2) := ge_bipush (by decide +kernel)
theorem d_X11_feed_4 : decode prog_1_method_2_code 4 = .ok (.invokestatic 76, 3) := ge_invokestatic (by decide +kernel)
theorem d_X11_feed_7 : decode prog_1_method_2_code 7 = .ok (.ifCond .eq 6, 3) := ge_ifCond_eq (by decide +kernel)
theorem d_X11_feed_10 : decode prog_1_method_2_code 10 = .ok (.bipush (-2), 2) := ge_bipush (by decide +kernel)
theorem d_X11_feed_12 : decode prog_1_method_2_code 12 = .ok (.ireturn, 1) := ge_ireturn (by decide +kernel)
theorem d_X11_feed_13 : decode prog_1_method_2_code 13 = .ok (.aload_n 0, 1) := ge_aload_n_0 (by decide +kernel)
theorem d_X11_feed_14 : decode prog_1_method_2_code 14 = .ok (.getfield 60, 3) := ge_getfield (by decide +kernel)
theorem d_X11_feed_17 : decode prog_1_method_2_code 17 = .ok (.getfield 80, 3) := ge_getfield (by decide +kernel)
theorem d_X11_feed_20 : decode prog_1_method_2_code 20 = .ok (.aload_n 0, 1) := ge_aload_n_0 (by decide +kernel)
theorem d_X11_feed_21 : decode prog_1_method_2_code 21 = .ok (.getfield 60, 3) := ge_getfield (by decide +kernel)
theorem d_X11_feed_24 : decode prog_1_method_2_code 24 = .ok (.getfield 84, 3) := ge_getfield (by decide +kernel)
theorem d_X11_feed_27 : decode prog_1_method_2_code 27 = .ok (.arraylength, 1) := ge_arraylength (by decide +kernel)
theorem d_X11_feed_28 : decode prog_1_method_2_code 28 = .ok (.if_icmp .lt 6, 3) := ge_if_icmp_lt (by decide +kernel)
theorem d_X11_feed_31 : decode prog_1_method_2_code 31 = .ok (.bipush (-4), 2) := ge_bipush (by decide +kernel)
theorem d_X11_feed_33 : decode prog_1_method_2_code 33 = .ok (.ireturn, 1) := ge_ireturn (by decide +kernel)
theorem d_X11_feed_34 : decode prog_1_method_2_code 34 = .ok (.aload_n 0, 1) := ge_aload_n_0 (by decide +kernel)
theorem d_X11_feed_35 : decode prog_1_method_2_code 35 = .ok (.getfield 60, 3) := ge_getfield (by decide +kernel)
theorem d_X11_feed_38 : decode prog_1_method_2_code 38 = .ok (.getfield 84, 3) := ge_getfield (by decide +kernel)
theorem d_X11_feed_41 : decode prog_1_method_2_code 41 = .ok (.aload_n 0, 1) := ge_aload_n_0 (by decide +kernel)
theorem d_X11_feed_42 : decode prog_1_method_2_code 42 = .ok (.getfield 60, 3) := ge_getfield (by decide +kernel)
theorem d_X11_feed_45 : decode prog_1_method_2_code 45 = .ok (.getfield 80, 3) := ge_getfield (by decide +kernel)
theorem d_X11_feed_48 : decode prog_1_method_2_code 48 = .ok (.iload_n 1, 1) := ge_iload_n_1 (by decide +kernel)
theorem d_X11_feed_49 : decode prog_1_method_2_code 49 = .ok (.iastore, 1) := ge_iastore (by decide +kernel)
theorem d_X11_feed_50 : decode prog_1_method_2_code 50 = .ok (.aload_n 0, 1) := ge_aload_n_0 (by decide +kernel)
theorem d_X11_feed_51 : decode prog_1_method_2_code 51 = .ok (.getfield 60, 3) := ge_getfield (by decide +kernel)
theorem d_X11_feed_54 : decode prog_1_method_2_code 54 = .ok (.dup, 1) := ge_dup (by decide +kernel)
theorem d_X11_feed_55 : decode prog_1_method_2_code 55 = .ok (.getfield 80, 3) := ge_getfield (by decide +kernel)
theorem d_X11_feed_58 : decode prog_1_method_2_code 58 = .ok (.iconst 1, 1) := ge_iconst_1 (by decide +kernel)
theorem d_X11_feed_59 : decode prog_1_method_2_code 59 = .ok (.iadd, 1) := ge_iadd (by decide +kernel)
theorem d_X11_feed_60 : decode prog_1_method_2_code 60 = .ok (.putfield 80, 3) := ge_putfield (by decide +kernel)
theorem d_X11_feed_63 : decode prog_1_method_2_code 63 = .ok (.aload_n 0, 1) := ge_aload_n_0 (by decide +kernel)
theorem d_X11_feed_64 : decode prog_1_method_2_code 64 = .ok (.getfield 60, 3) := ge_getfield (by decide +kernel)
theorem d_X11_feed_67 : decode prog_1_method_2_code 67 = .ok (.getfield 80, 3) := ge_getfield (by decide +kernel)
theorem d_X11_feed_70 : decode prog_1_method_2_code 70 = .ok (.ireturn, 1) := ge_ireturn (by decide +kernel)
def f_X11_feed (a0 : Nat) (a1 : Int32) (μ : gm_M) : Option (Option Value × gm_M) := gm_bI (f_X11_isOutside a1 (0 : Int32) (127 : Int32) μ) (fun x2 m1 => if x2 = 0 then gm_gR m1 [16] a0 1 (fun v3 => gm_gI m1 [13] v3 4 (fun v4 => gm_gR m1 [16] a0 1 (fun v5 => gm_gR m1 [13] v5 3 (fun v6 => gm_al m1 1 v6 (fun v7 => if v4 < v7 then gm_gR m1 [16] a0 1 (fun v8 => gm_gR m1 [13] v8 3 (fun v9 => gm_gR m1 [16] a0 1 (fun v10 => gm_gI m1 [13] v10 4 (fun v11 => gm_sI m1 v9 v11 a1 (fun m12 => gm_gR m12 [16] a0 1 (fun v13 => gm_gI m12 [13] v13 4 (fun v14 => gm_pI m12 [13] v13 4 (v14 + (1 : Int32)) (fun m15 => gm_gR m15 [16] a0 1 (fun v16 => gm_gI m15 [13] v16 4 (fun v17 => some (some (.int v17), m15))))))))))) else some (some (.int (-4 : Int32)), m1)))))) else some (some (.int (-2 : Int32)), m1))
set_option maxHeartbeats 4000000 in
theorem c_X11_feed (a0 : Nat) (a1 : Int32) (μ : gm_M) : gm_Call ({ cls := "GumBubble", name := "feed", desc := "(I)I" } : Jvm.MethodName) prog_1_method_2_code 2 (some .int) 1 0 0 [.ref a0, .int a1] μ (f_X11_feed a0 a1 μ) := by
  refine gm_start PN_11 (Nat.le_of_ble_eq_true rfl) (fun res μe => ?_)
  unfold f_X11_feed
  show gm_A "GumBubble" (gm_nm "feed") _ _ _ _ _ _ _ _ _ 0 [(0, .ref a0), (1, .int a1)] [] _ _
  refine gm_iload_n d_X11_feed_0 rfl 1 rfl ?_
  refine gm_iconst (v := 0) d_X11_feed_1 (by decide) ?_
  refine gm_bipush (v := 127) d_X11_feed_2 (by decide) ?_
  refine gm_callS [.int a1, .int (0 : Int32), .int (127 : Int32)] (c_X11_isOutside a1 (0 : Int32) (127 : Int32) μ) B_X11_isOutside gw_296 rfl rfl rfl d_X11_feed_4 (gm_kI (fun x2 m1 => ?_))
  refine gm_if_eq (tgt := 13) d_X11_feed_7 (by decide) (fun h7 => ?_) (fun h7 => ?_)
  ·
    refine gm_aload_n d_X11_feed_13 rfl 0 rfl ?_
    refine gm_getR F_11_now gw_262 d_X11_feed_14 (fun v3 _ => ?_)
    refine gm_getI F_8_tapeSize gw_226 d_X11_feed_17 (fun v4 _ => ?_)
    refine gm_aload_n d_X11_feed_20 rfl 0 rfl ?_
    refine gm_getR F_11_now gw_262 d_X11_feed_21 (fun v5 _ => ?_)
    refine gm_getR F_8_tape gw_225 d_X11_feed_24 (fun v6 _ => ?_)
    refine gm_alen (Or.inl rfl) d_X11_feed_27 (fun v7 _ => ?_)
    refine gm_icmp_lt (tgt := 34) d_X11_feed_28 (by decide) (fun h28 => ?_) (fun h28 => ?_)
    ·
      refine gm_aload_n d_X11_feed_34 rfl 0 rfl ?_
      refine gm_getR F_11_now gw_262 d_X11_feed_35 (fun v8 _ => ?_)
      refine gm_getR F_8_tape gw_225 d_X11_feed_38 (fun v9 _ => ?_)
      refine gm_aload_n d_X11_feed_41 rfl 0 rfl ?_
      refine gm_getR F_11_now gw_262 d_X11_feed_42 (fun v10 _ => ?_)
      refine gm_getI F_8_tapeSize gw_226 d_X11_feed_45 (fun v11 _ => ?_)
      refine gm_iload_n d_X11_feed_48 rfl 1 rfl ?_
      refine gm_iast d_X11_feed_49 (fun m12 _ => ?_)
      refine gm_aload_n d_X11_feed_50 rfl 0 rfl ?_
      refine gm_getR F_11_now gw_262 d_X11_feed_51 (fun v13 _ => ?_)
      refine gm_dup d_X11_feed_54 rfl ?_
      refine gm_getI F_8_tapeSize gw_226 d_X11_feed_55 (fun v14 _ => ?_)
      refine gm_iconst (v := 1) d_X11_feed_58 (by decide) ?_
      refine gm_iadd d_X11_feed_59 ?_
      refine gm_putI F_8_tapeSize (Or.inl rfl) gw_226 d_X11_feed_60 (fun m15 _ => ?_)
      refine gm_aload_n d_X11_feed_63 rfl 0 rfl ?_
      refine gm_getR F_11_now gw_262 d_X11_feed_64 (fun v16 _ => ?_)
      refine gm_getI F_8_tapeSize gw_226 d_X11_feed_67 (fun v17 _ => ?_)
      exact gm_iret rfl d_X11_feed_70 (Nat.le_of_ble_eq_true rfl) (Nat.le_of_ble_eq_true rfl) (fun h => h)
    ·
      refine gm_bipush (v := -4) d_X11_feed_31 (by decide) ?_
      exact gm_iret rfl d_X11_feed_33 (Nat.le_of_ble_eq_true rfl) (Nat.le_of_ble_eq_true rfl) (fun h => h)
  ·
    refine gm_bipush (v := -2) d_X11_feed_10 (by decide) ?_
    exact gm_iret rfl d_X11_feed_12 (Nat.le_of_ble_eq_true rfl) (Nat.le_of_ble_eq_true rfl) (fun h => h)
theorem d_X11_fillBehind_0 : decode prog_1_method_53_code 0 = .ok (.aload_n 0, 1) := ge_aload_n_0 (by decide +kernel)
theorem d_X11_fillBehind_1 : decode prog_1_method_53_code 1 = .ok (.getfield 72, 3) := ge_getfield (by decide +kernel)
theorem d_X11_fillBehind_4 : decode prog_1_method_53_code 4 = .ok (.aload_n 0, 1) := ge_aload_n_0 (by decide +kernel)
theorem d_X11_fillBehind_5 : decode prog_1_method_53_code 5 = .ok (.getfield 60, 3) := ge_getfield (by decide +kernel)
theorem d_X11_fillBehind_8 : decode prog_1_method_53_code 8 = .ok (.getfield 104, 3) := ge_getfield (by decide +kernel)
theorem d_X11_fillBehind_11 : decode prog_1_method_53_code 11 = .ok (.iload_n 1, 1) := ge_iload_n_1 (by decide +kernel)
theorem d_X11_fillBehind_12 : decode prog_1_method_53_code 12 = .ok (.aaload, 1) := ge_aaload (by decide +kernel)
theorem d_X11_fillBehind_13 : decode prog_1_method_53_code 13 = .ok (.invokevirtual 186, 3) := ge_invokevirtual (by decide +kernel)
theorem d_X11_fillBehind_16 : decode prog_1_method_53_code 16 = .ok (.iconst 0, 1) := ge_iconst_0 (by decide +kernel)
theorem d_X11_fillBehind_17 : decode prog_1_method_53_code 17 = .ok (.istore_n 2, 1) := ge_istore_n_2 (by decide +kernel)
theorem d_X11_fillBehind_18 : decode prog_1_method_53_code 18 = .ok (.iload_n 2, 1) := ge_iload_n_2 (by decide +kernel)
theorem d_X11_fillBehind_19 : decode prog_1_method_53_code 19 = .ok (.aload_n 0, 1) := ge_aload_n_0 (by decide +kernel)
theorem d_X11_fillBehind_20 : decode prog_1_method_53_code 20 = .ok (.getfield 60, 3) := ge_getfield (by decide +kernel)
theorem d_X11_fillBehind_23 : decode prog_1_method_53_code 23 = .ok (.getfield 101, 3) := ge_getfield (by decide +kernel)
theorem d_X11_fillBehind_26 : decode prog_1_method_53_code 26 = .ok (.if_icmp .ge 58, 3) := ge_if_icmp_ge (by decide +kernel)
theorem d_X11_fillBehind_29 : decode prog_1_method_53_code 29 = .ok (.aload_n 0, 1) := ge_aload_n_0 (by decide +kernel)
theorem d_X11_fillBehind_30 : decode prog_1_method_53_code 30 = .ok (.getfield 26, 3) := ge_getfield (by decide +kernel)
theorem d_X11_fillBehind_33 : decode prog_1_method_53_code 33 = .ok (.iload_n 1, 1) := ge_iload_n_1 (by decide +kernel)
theorem d_X11_fillBehind_34 : decode prog_1_method_53_code 34 = .ok (.iconst 5, 1) := ge_iconst_5 (by decide +kernel)
theorem d_X11_fillBehind_35 : decode prog_1_method_53_code 35 = .ok (.imul, 1) := ge_imul (by decide +kernel)
theorem d_X11_fillBehind_36 : decode prog_1_method_53_code 36 = .ok (.iload_n 2, 1) := ge_iload_n_2 (by decide +kernel)
theorem d_X11_fillBehind_37 : decode prog_1_method_53_code 37 = .ok (.iadd, 1) := ge_iadd (by decide +kernel)
theorem d_X11_fillBehind_38 : decode prog_1_method_53_code 38 = .ok (.aload_n 0, 1) := ge_aload_n_0 (by decide +kernel)
theorem d_X11_fillBehind_39 : decode prog_1_method_53_code 39 = .ok (.getfield 72, 3) := ge_getfield (by decide +kernel)
theorem d_X11_fillBehind_42 : decode prog_1_method_53_code 42 = .ok (.aload_n 0, 1) := ge_aload_n_0 (by decide +kernel)
theorem d_X11_fillBehind_43 : decode prog_1_method_53_code 43 = .ok (.getfield 60, 3) := ge_getfield (by decide +kernel)
theorem d_X11_fillBehind_46 : decode prog_1_method_53_code 46 = .ok (.getfield 97, 3) := ge_getfield (by decide +kernel)
theorem d_X11_fillBehind_49 : decode prog_1_method_53_code 49 = .ok (.aload_n 0, 1) := ge_aload_n_0 (by decide +kernel)
theorem d_X11_fillBehind_50 : decode prog_1_method_53_code 50 = .ok (.getfield 60, 3) := ge_getfield (by decide +kernel)
theorem d_X11_fillBehind_53 : decode prog_1_method_53_code 53 = .ok (.getfield 144, 3) := ge_getfield (by decide +kernel)
theorem d_X11_fillBehind_56 : decode prog_1_method_53_code 56 = .ok (.iload_n 2, 1) := ge_iload_n_2 (by decide +kernel)
theorem d_X11_fillBehind_57 : decode prog_1_method_53_code 57 = .ok (.iadd, 1) := ge_iadd (by decide +kernel)
theorem d_X11_fillBehind_58 : decode prog_1_method_53_code 58 = .ok (.invokevirtual 193, 3) := ge_invokevirtual (by decide +kernel)
theorem d_X11_fillBehind_61 : decode prog_1_method_53_code 61 = .ok (.iastore, 1) := ge_iastore (by decide +kernel)
theorem d_X11_fillBehind_62 : decode prog_1_method_53_code 62 = .ok (.aload_n 0, 1) := ge_aload_n_0 (by decide +kernel)
theorem d_X11_fillBehind_63 : decode prog_1_method_53_code 63 = .ok (.getfield 72, 3) := ge_getfield (by decide +kernel)
theorem d_X11_fillBehind_66 : decode prog_1_method_53_code 66 = .ok (.aload_n 0, 1) := ge_aload_n_0 (by decide +kernel)
theorem d_X11_fillBehind_67 : decode prog_1_method_53_code 67 = .ok (.getfield 60, 3) := ge_getfield (by decide +kernel)
theorem d_X11_fillBehind_70 : decode prog_1_method_53_code 70 = .ok (.getfield 144, 3) := ge_getfield (by decide +kernel)
theorem d_X11_fillBehind_73 : decode prog_1_method_53_code 73 = .ok (.iload_n 2, 1) := ge_iload_n_2 (by decide +kernel)
theorem d_X11_fillBehind_74 : decode prog_1_method_53_code 74 = .ok (.iadd, 1) := ge_iadd (by decide +kernel)
theorem d_X11_fillBehind_75 : decode prog_1_method_53_code 75 = .ok (.invokevirtual 179, 3) := ge_invokevirtual (by decide +kernel)
theorem d_X11_fillBehind_78 : decode prog_1_method_53_code 78 = .ok (.iinc 2 1, 3) := ge_iinc (by decide +kernel)
theorem d_X11_fillBehind_81 : decode prog_1_method_53_code 81 = .ok (.goto (-63), 3) := ge_goto (by decide +kernel)
theorem d_X11_fillBehind_84 : decode prog_1_method_53_code 84 = .ok (.return_, 1) := ge_return_ (by decide +kernel)
def f_X11_fillBehind (a0 : Nat) (a1 : Int32) (μ : gm_M) : Option (Option Value × gm_M) := gm_gR μ [16] a0 5 (fun v1 => gm_gR μ [16] a0 1 (fun v2 => gm_gR μ [13] v2 2 (fun v3 => gm_aR μ 4 v3 a1 (fun v4 => if gm_tag μ v1 = 7 then gm_bV (f_X2_copy v1 v4 μ) (fun m5 => gm_loop (fun (s7 : Int32 × gm_M) => gm_gR s7.2 [16] a0 1 (fun v8 => gm_gI s7.2 [13] v8 1 (fun v9 => if v9 ≤ s7.1 then some (Sum.inr (none, s7.2)) else gm_gR s7.2 [16] a0 6 (fun v10 => gm_gR s7.2 [16] a0 5 (fun v11 => gm_gR s7.2 [16] a0 1 (fun v12 => gm_gR s7.2 [13] v12 6 (fun v13 => gm_gR s7.2 [16] a0 1 (fun v14 => gm_gI s7.2 [13] v14 0 (fun v15 => if gm_tag s7.2 v11 = 7 then gm_bI (f_X2_holds v11 v13 (v15 + s7.1) s7.2) (fun x17 m16 => gm_sI m16 v10 ((a1 * (5 : Int32)) + s7.1) x17 (fun m18 => gm_gR m18 [16] a0 5 (fun v19 => gm_gR m18 [16] a0 1 (fun v20 => gm_gI m18 [13] v20 0 (fun v21 => if gm_tag m18 v19 = 7 then gm_bV (f_X2_passMinute v19 (v21 + s7.1) m18) (fun m22 => some (Sum.inl ((s7.1 + (1 : Int32)), m22))) else none))))) else none))))))))) 5000 ((0 : Int32), m5)) else none))))
set_option maxHeartbeats 4000000 in
theorem c_X11_fillBehind (a0 : Nat) (a1 : Int32) (μ : gm_M) : gm_Call ({ cls := "GumBubble", name := "fillBehind", desc := "(I)V" } : Jvm.MethodName) prog_1_method_53_code 3 none 4 0 0 [.ref a0, .int a1] μ (f_X11_fillBehind a0 a1 μ) := by
  refine gm_start PN_11 (Nat.le_of_ble_eq_true rfl) (fun res μe => ?_)
  unfold f_X11_fillBehind
  show gm_A "GumBubble" (gm_nm "fillBehind") _ _ _ _ _ _ _ _ _ 0 [(0, .ref a0), (1, .int a1)] [] _ _
  refine gm_aload_n d_X11_fillBehind_0 rfl 0 rfl ?_
  refine gm_getR F_11_trial gw_266 d_X11_fillBehind_1 (fun v1 _ => ?_)
  refine gm_aload_n d_X11_fillBehind_4 rfl 0 rfl ?_
  refine gm_getR F_11_now gw_262 d_X11_fillBehind_5 (fun v2 _ => ?_)
  refine gm_getR F_8_children gw_223 d_X11_fillBehind_8 (fun v3 _ => ?_)
  refine gm_iload_n d_X11_fillBehind_11 rfl 1 rfl ?_
  refine gm_aald (Or.inr rfl) d_X11_fillBehind_12 (fun v4 _ => ?_)
  refine gm_grd (fun g13 => ?_)
  refine gm_callV (k0 := 2) [.ref v4] (c_X2_copy v1 v4 μ) g13 rfl B_X2_copy gw_585 gw_587 rfl rfl rfl d_X11_fillBehind_13 (gm_kV (fun m5 => ?_))
  refine gm_iconst (v := 0) d_X11_fillBehind_16 (by decide) ?_
  refine gm_istore_n (L' := [(2, .int (0 : Int32)), (0, .ref a0), (1, .int a1)]) d_X11_fillBehind_17 rfl (Nat.le_of_ble_eq_true rfl) rfl ?_
  refine gm_sub (L' := [(0, .ref a0), (1, .int a1), (2, .int (0 : Int32))]) [1, 2, 0] rfl ?_
  refine gm_lp (S := Int32 × gm_M) (fun _ => 0) (fun _ => 0) (fun s7 => s7.2) (fun s7 => [(0, .ref a0), (1, .int a1), (2, .int s7.1)]) (fun _ => []) (fun s7 => ?_) 5000 ((0 : Int32), m5)
  refine gm_iload_n d_X11_fillBehind_18 rfl 2 rfl ?_
  refine gm_aload_n d_X11_fillBehind_19 rfl 0 rfl ?_
  refine gm_getR F_11_now gw_262 d_X11_fillBehind_20 (fun v8 _ => ?_)
  refine gm_getI F_8_size gw_221 d_X11_fillBehind_23 (fun v9 _ => ?_)
  refine gm_icmp_ge (tgt := 84) d_X11_fillBehind_26 (by decide) (fun h26 => ?_) (fun h26 => ?_)
  ·
    exact gm_vret rfl d_X11_fillBehind_84 (Nat.le_of_ble_eq_true rfl) (Nat.le_of_ble_eq_true rfl) (fun h => h)
  ·
    refine gm_aload_n d_X11_fillBehind_29 rfl 0 rfl ?_
    refine gm_getR F_11_behind gw_267 d_X11_fillBehind_30 (fun v10 _ => ?_)
    refine gm_iload_n d_X11_fillBehind_33 rfl 1 rfl ?_
    refine gm_iconst (v := 5) d_X11_fillBehind_34 (by decide) ?_
    refine gm_imul d_X11_fillBehind_35 ?_
    refine gm_iload_n d_X11_fillBehind_36 rfl 2 rfl ?_
    refine gm_iadd d_X11_fillBehind_37 ?_
    refine gm_aload_n d_X11_fillBehind_38 rfl 0 rfl ?_
    refine gm_getR F_11_trial gw_266 d_X11_fillBehind_39 (fun v11 _ => ?_)
    refine gm_aload_n d_X11_fillBehind_42 rfl 0 rfl ?_
    refine gm_getR F_11_now gw_262 d_X11_fillBehind_43 (fun v12 _ => ?_)
    refine gm_getR F_8_afternoon gw_231 d_X11_fillBehind_46 (fun v13 _ => ?_)
    refine gm_aload_n d_X11_fillBehind_49 rfl 0 rfl ?_
    refine gm_getR F_11_now gw_262 d_X11_fillBehind_50 (fun v14 _ => ?_)
    refine gm_getI F_8_minute gw_219 d_X11_fillBehind_53 (fun v15 _ => ?_)
    refine gm_iload_n d_X11_fillBehind_56 rfl 2 rfl ?_
    refine gm_iadd d_X11_fillBehind_57 ?_
    refine gm_grd (fun g58 => ?_)
    refine gm_callV (k0 := 2) [.ref v13, .int (v15 + s7.1)] (c_X2_holds v11 v13 (v15 + s7.1) s7.2) g58 rfl B_X2_holds gw_545 gw_547 rfl rfl rfl d_X11_fillBehind_58 (gm_kI (fun x17 m16 => ?_))
    refine gm_iast d_X11_fillBehind_61 (fun m18 _ => ?_)
    refine gm_aload_n d_X11_fillBehind_62 rfl 0 rfl ?_
    refine gm_getR F_11_trial gw_266 d_X11_fillBehind_63 (fun v19 _ => ?_)
    refine gm_aload_n d_X11_fillBehind_66 rfl 0 rfl ?_
    refine gm_getR F_11_now gw_262 d_X11_fillBehind_67 (fun v20 _ => ?_)
    refine gm_getI F_8_minute gw_219 d_X11_fillBehind_70 (fun v21 _ => ?_)
    refine gm_iload_n d_X11_fillBehind_73 rfl 2 rfl ?_
    refine gm_iadd d_X11_fillBehind_74 ?_
    refine gm_grd (fun g75 => ?_)
    refine gm_callV (k0 := 2) [.int (v21 + s7.1)] (c_X2_passMinute v19 (v21 + s7.1) m18) g75 rfl B_X2_passMinute gw_596 gw_598 rfl rfl rfl d_X11_fillBehind_75 (gm_kV (fun m22 => ?_))
    refine gm_iinc (v := s7.1 + (1 : Int32)) (L' := [(2, .int (s7.1 + (1 : Int32))), (0, .ref a0), (1, .int a1)]) d_X11_fillBehind_78 2 rfl rfl (Nat.le_of_ble_eq_true rfl) rfl ?_
    refine gm_goto (tgt := 18) d_X11_fillBehind_81 (by decide) ?_
    refine gm_sub (L' := [(0, .ref a0), (1, .int a1), (2, .int (s7.1 + (1 : Int32)))]) [1, 2, 0] rfl ?_
    exact gm_back (fun h => h)
theorem d_X11_trialBehind_0 : decode prog_1_method_44_code 0 = .ok (.iconst 0, 1) := ge_iconst_0 (by decide +kernel)
theorem d_X11_trialBehind_1 : decode prog_1_method_44_code 1 = .ok (.istore_n 2, 1) := ge_istore_n_2 (by decide +kernel)
theorem d_X11_trialBehind_2 : decode prog_1_method_44_code 2 = .ok (.iload_n 2, 1) := ge_iload_n_2 (by decide +kernel)
theorem d_X11_trialBehind_3 : decode prog_1_method_44_code 3 = .ok (.iload_n 1, 1) := ge_iload_n_1 (by decide +kernel)
theorem d_X11_trialBehind_4 : decode prog_1_method_44_code 4 = .ok (.if_icmp .ge 25, 3) := ge_if_icmp_ge (by decide +kernel)
theorem d_X11_trialBehind_7 : decode prog_1_method_44_code 7 = .ok (.aload_n 0, 1) := ge_aload_n_0 (by decide +kernel)
theorem d_X11_trialBehind_8 : decode prog_1_method_44_code 8 = .ok (.getfield 72, 3) := ge_getfield (by decide +kernel)
theorem d_X11_trialBehind_11 : decode prog_1_method_44_code 11 = .ok (.aload_n 0, 1) := ge_aload_n_0 (by decide +kernel)
theorem d_X11_trialBehind_12 : decode prog_1_method_44_code 12 = .ok (.getfield 60, 3) := ge_getfield (by decide +kernel)
theorem d_X11_trialBehind_15 : decode prog_1_method_44_code 15 = .ok (.getfield 144, 3) := ge_getfield (by decide +kernel)
theorem d_X11_trialBehind_18 : decode prog_1_method_44_code 18 = .ok (.iload_n 2, 1) := ge_iload_n_2 (by decide +kernel)
theorem d_X11_trialBehind_19 : decode prog_1_method_44_code 19 = .ok (.iadd, 1) := ge_iadd (by decide +kernel)
theorem d_X11_trialBehind_20 : decode prog_1_method_44_code 20 = .ok (.invokevirtual 179, 3) := ge_invokevirtual (by decide +kernel)
theorem d_X11_trialBehind_23 : decode prog_1_method_44_code 23 = .ok (.iinc 2 1, 3) := ge_iinc (by decide +kernel)
theorem d_X11_trialBehind_26 : decode prog_1_method_44_code 26 = .ok (.goto (-24), 3) := ge_goto (by decide +kernel)
theorem d_X11_trialBehind_29 : decode prog_1_method_44_code 29 = .ok (.aload_n 0, 1) := ge_aload_n_0 (by decide +kernel)
theorem d_X11_trialBehind_30 : decode prog_1_method_44_code 30 = .ok (.getfield 72, 3) := ge_getfield (by decide +kernel)
theorem d_X11_trialBehind_33 : decode prog_1_method_44_code 33 = .ok (.aload_n 0, 1) := ge_aload_n_0 (by decide +kernel)
theorem d_X11_trialBehind_34 : decode prog_1_method_44_code 34 = .ok (.getfield 60, 3) := ge_getfield (by decide +kernel)
theorem d_X11_trialBehind_37 : decode prog_1_method_44_code 37 = .ok (.getfield 97, 3) := ge_getfield (by decide +kernel)
theorem d_X11_trialBehind_40 : decode prog_1_method_44_code 40 = .ok (.aload_n 0, 1) := ge_aload_n_0 (by decide +kernel)
theorem d_X11_trialBehind_41 : decode prog_1_method_44_code 41 = .ok (.getfield 60, 3) := ge_getfield (by decide +kernel)
theorem d_X11_trialBehind_44 : decode prog_1_method_44_code 44 = .ok (.getfield 144, 3) := ge_getfield (by decide +kernel)
theorem d_X11_trialBehind_47 : decode prog_1_method_44_code 47 = .ok (.iload_n 1, 1) := ge_iload_n_1 (by decide +kernel)
theorem d_X11_trialBehind_48 : decode prog_1_method_44_code 48 = .ok (.iadd, 1) := ge_iadd (by decide +kernel)
theorem d_X11_trialBehind_49 : decode prog_1_method_44_code 49 = .ok (.invokevirtual 193, 3) := ge_invokevirtual (by decide +kernel)
theorem d_X11_trialBehind_52 : decode prog_1_method_44_code 52 = .ok (.ireturn, 1) := ge_ireturn (by decide +kernel)
def f_X11_trialBehind (a0 : Nat) (a1 : Int32) (μ : gm_M) : Option (Option Value × gm_M) := gm_loop (fun (s1 : Int32 × gm_M) => if a1 ≤ s1.1 then gm_gR s1.2 [16] a0 5 (fun v2 => gm_gR s1.2 [16] a0 1 (fun v3 => gm_gR s1.2 [13] v3 6 (fun v4 => gm_gR s1.2 [16] a0 1 (fun v5 => gm_gI s1.2 [13] v5 0 (fun v6 => if gm_tag s1.2 v2 = 7 then gm_bI (f_X2_holds v2 v4 (v6 + a1) s1.2) (fun x8 m7 => some (Sum.inr (some (.int x8), m7))) else none))))) else gm_gR s1.2 [16] a0 5 (fun v9 => gm_gR s1.2 [16] a0 1 (fun v10 => gm_gI s1.2 [13] v10 0 (fun v11 => if gm_tag s1.2 v9 = 7 then gm_bV (f_X2_passMinute v9 (v11 + s1.1) s1.2) (fun m12 => some (Sum.inl ((s1.1 + (1 : Int32)), m12))) else none)))) 5000 ((0 : Int32), μ)
set_option maxHeartbeats 4000000 in
theorem c_X11_trialBehind (a0 : Nat) (a1 : Int32) (μ : gm_M) : gm_Call ({ cls := "GumBubble", name := "trialBehind", desc := "(I)I" } : Jvm.MethodName) prog_1_method_44_code 3 (some .int) 4 0 0 [.ref a0, .int a1] μ (f_X11_trialBehind a0 a1 μ) := by
  refine gm_start PN_11 (Nat.le_of_ble_eq_true rfl) (fun res μe => ?_)
  unfold f_X11_trialBehind
  show gm_A "GumBubble" (gm_nm "trialBehind") _ _ _ _ _ _ _ _ _ 0 [(0, .ref a0), (1, .int a1)] [] _ _
  refine gm_iconst (v := 0) d_X11_trialBehind_0 (by decide) ?_
  refine gm_istore_n (L' := [(2, .int (0 : Int32)), (0, .ref a0), (1, .int a1)]) d_X11_trialBehind_1 rfl (Nat.le_of_ble_eq_true rfl) rfl ?_
  refine gm_sub (L' := [(0, .ref a0), (1, .int a1), (2, .int (0 : Int32))]) [1, 2, 0] rfl ?_
  refine gm_lp (S := Int32 × gm_M) (fun _ => 0) (fun _ => 0) (fun s1 => s1.2) (fun s1 => [(0, .ref a0), (1, .int a1), (2, .int s1.1)]) (fun _ => []) (fun s1 => ?_) 5000 ((0 : Int32), μ)
  refine gm_iload_n d_X11_trialBehind_2 rfl 2 rfl ?_
  refine gm_iload_n d_X11_trialBehind_3 rfl 1 rfl ?_
  refine gm_icmp_ge (tgt := 29) d_X11_trialBehind_4 (by decide) (fun h4 => ?_) (fun h4 => ?_)
  ·
    refine gm_aload_n d_X11_trialBehind_29 rfl 0 rfl ?_
    refine gm_getR F_11_trial gw_266 d_X11_trialBehind_30 (fun v2 _ => ?_)
    refine gm_aload_n d_X11_trialBehind_33 rfl 0 rfl ?_
    refine gm_getR F_11_now gw_262 d_X11_trialBehind_34 (fun v3 _ => ?_)
    refine gm_getR F_8_afternoon gw_231 d_X11_trialBehind_37 (fun v4 _ => ?_)
    refine gm_aload_n d_X11_trialBehind_40 rfl 0 rfl ?_
    refine gm_getR F_11_now gw_262 d_X11_trialBehind_41 (fun v5 _ => ?_)
    refine gm_getI F_8_minute gw_219 d_X11_trialBehind_44 (fun v6 _ => ?_)
    refine gm_iload_n d_X11_trialBehind_47 rfl 1 rfl ?_
    refine gm_iadd d_X11_trialBehind_48 ?_
    refine gm_grd (fun g49 => ?_)
    refine gm_callV (k0 := 2) [.ref v4, .int (v6 + a1)] (c_X2_holds v2 v4 (v6 + a1) s1.2) g49 rfl B_X2_holds gw_545 gw_547 rfl rfl rfl d_X11_trialBehind_49 (gm_kI (fun x8 m7 => ?_))
    exact gm_iret rfl d_X11_trialBehind_52 (Nat.le_of_ble_eq_true rfl) (Nat.le_of_ble_eq_true rfl) (fun h => h)
  ·
    refine gm_aload_n d_X11_trialBehind_7 rfl 0 rfl ?_
    refine gm_getR F_11_trial gw_266 d_X11_trialBehind_8 (fun v9 _ => ?_)
    refine gm_aload_n d_X11_trialBehind_11 rfl 0 rfl ?_
    refine gm_getR F_11_now gw_262 d_X11_trialBehind_12 (fun v10 _ => ?_)
    refine gm_getI F_8_minute gw_219 d_X11_trialBehind_15 (fun v11 _ => ?_)
    refine gm_iload_n d_X11_trialBehind_18 rfl 2 rfl ?_
    refine gm_iadd d_X11_trialBehind_19 ?_
    refine gm_grd (fun g20 => ?_)
    refine gm_callV (k0 := 2) [.int (v11 + s1.1)] (c_X2_passMinute v9 (v11 + s1.1) s1.2) g20 rfl B_X2_passMinute gw_596 gw_598 rfl rfl rfl d_X11_trialBehind_20 (gm_kV (fun m12 => ?_))
    refine gm_iinc (v := s1.1 + (1 : Int32)) (L' := [(2, .int (s1.1 + (1 : Int32))), (0, .ref a0), (1, .int a1)]) d_X11_trialBehind_23 2 rfl rfl (Nat.le_of_ble_eq_true rfl) rfl ?_
    refine gm_goto (tgt := 2) d_X11_trialBehind_26 (by decide) ?_
    refine gm_sub (L' := [(0, .ref a0), (1, .int a1), (2, .int (s1.1 + (1 : Int32)))]) [1, 2, 0] rfl ?_
    exact gm_back (fun h => h)
theorem d_X11_isAllSeen_0 : decode prog_1_method_55_code 0 = .ok (.iconst 0, 1) := ge_iconst_0 (by decide +kernel)
theorem d_X11_isAllSeen_1 : decode prog_1_method_55_code 1 = .ok (.istore 4, 2) := ge_istore (by decide +kernel)
theorem d_X11_isAllSeen_3 : decode prog_1_method_55_code 3 = .ok (.iload 4, 2) := ge_iload (by decide +kernel)
theorem d_X11_isAllSeen_5 : decode prog_1_method_55_code 5 = .ok (.aload_n 0, 1) := ge_aload_n_0 (by decide +kernel)
theorem d_X11_isAllSeen_6 : decode prog_1_method_55_code 6 = .ok (.getfield 60, 3) := ge_getfield (by decide +kernel)
theorem d_X11_isAllSeen_9 : decode prog_1_method_55_code 9 = .ok (.getfield 233, 3) := ge_getfield (by decide +kernel)
theorem d_X11_isAllSeen_12 : decode prog_1_method_55_code 12 = .ok (.getfield 259, 3) := ge_getfield (by decide +kernel)
theorem d_X11_isAllSeen_15 : decode prog_1_method_55_code 15 = .ok (.if_icmp .ge 110, 3) := ge_if_icmp_ge (by decide +kernel)
theorem d_X11_isAllSeen_18 : decode prog_1_method_55_code 18 = .ok (.aload_n 0, 1) := ge_aload_n_0 (by decide +kernel)
theorem d_X11_isAllSeen_19 : decode prog_1_method_55_code 19 = .ok (.getfield 60, 3) := ge_getfield (by decide +kernel)
theorem d_X11_isAllSeen_22 : decode prog_1_method_55_code 22 = .ok (.getfield 233, 3) := ge_getfield (by decide +kernel)
theorem d_X11_isAllSeen_25 : decode prog_1_method_55_code 25 = .ok (.iload 4, 2) := ge_iload (by decide +kernel)
theorem d_X11_isAllSeen_27 : decode prog_1_method_55_code 27 = .ok (.iconst 0, 1) := ge_iconst_0 (by decide +kernel)
theorem d_X11_isAllSeen_28 : decode prog_1_method_55_code 28 = .ok (.invokevirtual 262, 3) := ge_invokevirtual (by decide +kernel)
theorem d_X11_isAllSeen_31 : decode prog_1_method_55_code 31 = .ok (.istore 5, 2) := ge_istore (by decide +kernel)
theorem d_X11_isAllSeen_33 : decode prog_1_method_55_code 33 = .ok (.aload_n 0, 1) := ge_aload_n_0 (by decide +kernel)
theorem d_X11_isAllSeen_34 : decode prog_1_method_55_code 34 = .ok (.iload 5, 2) := ge_iload (by decide +kernel)
theorem d_X11_isAllSeen_36 : decode prog_1_method_55_code 36 = .ok (.invokevirtual 115, 3) := ge_invokevirtual (by decide +kernel)
theorem d_X11_isAllSeen_39 : decode prog_1_method_55_code 39 = .ok (.ifCond .eq 6, 3) := ge_ifCond_eq (by decide +kernel)
theorem d_X11_isAllSeen_42 : decode prog_1_method_55_code 42 = .ok (.goto 77, 3) := ge_goto (by decide +kernel)
theorem d_X11_isAllSeen_45 : decode prog_1_method_55_code 45 = .ok (.aload_n 0, 1) := ge_aload_n_0 (by decide +kernel)
theorem d_X11_isAllSeen_46 : decode prog_1_method_55_code 46 = .ok (.getfield 72, 3) := ge_getfield (by decide +kernel)
theorem d_X11_isAllSeen_49 : decode prog_1_method_55_code 49 = .ok (.aload_n 0, 1) := ge_aload_n_0 (by decide +kernel)
theorem d_X11_isAllSeen_50 : decode prog_1_method_55_code 50 = .ok (.getfield 60, 3) := ge_getfield (by decide +kernel)
theorem d_X11_isAllSeen_53 : decode prog_1_method_55_code 53 = .ok (.getfield 104, 3) := ge_getfield (by decide +kernel)
theorem d_X11_isAllSeen_56 : decode prog_1_method_55_code 56 = .ok (.iload 5, 2) := ge_iload (by decide +kernel)
theorem d_X11_isAllSeen_58 : decode prog_1_method_55_code 58 = .ok (.aaload, 1) := ge_aaload (by decide +kernel)
theorem d_X11_isAllSeen_59 : decode prog_1_method_55_code 59 = .ok (.invokevirtual 186, 3) := ge_invokevirtual (by decide +kernel)
theorem d_X11_isAllSeen_62 : decode prog_1_method_55_code 62 = .ok (.iload 5, 2) := ge_iload (by decide +kernel)
theorem d_X11_isAllSeen_64 : decode prog_1_method_55_code 64 = .ok (.iload_n 1, 1) := ge_iload_n_1 (by decide +kernel)
theorem d_X11_isAllSeen_65 : decode prog_1_method_55_code 65 = .ok (.if_icmp .ne 19, 3) := ge_if_icmp_ne (by decide +kernel)
theorem d_X11_isAllSeen_68 : decode prog_1_method_55_code 68 = .ok (.aload_n 0, 1) := ge_aload_n_0 (by decide +kernel)
theorem d_X11_isAllSeen_69 : decode prog_1_method_55_code 69 = .ok (.getfield 72, 3) := ge_getfield (by decide +kernel)
theorem d_X11_isAllSeen_72 : decode prog_1_method_55_code 72 = .ok (.iload_n 2, 1) := ge_iload_n_2 (by decide +kernel)
theorem d_X11_isAllSeen_73 : decode prog_1_method_55_code 73 = .ok (.putfield 126, 3) := ge_putfield (by decide +kernel)
theorem d_X11_isAllSeen_76 : decode prog_1_method_55_code 76 = .ok (.aload_n 0, 1) := ge_aload_n_0 (by decide +kernel)
theorem d_X11_isAllSeen_77 : decode prog_1_method_55_code 77 = .ok (.getfield 72, 3) := ge_getfield (by decide +kernel)
theorem d_X11_isAllSeen_80 : decode prog_1_method_55_code 80 = .ok (.iload_n 3, 1) := ge_iload_n_3 (by decide +kernel)
theorem d_X11_isAllSeen_81 : decode prog_1_method_55_code 81 = .ok (.putfield 129, 3) := ge_putfield (by decide +kernel)
theorem d_X11_isAllSeen_84 : decode prog_1_method_55_code 84 = .ok (.aload_n 0, 1) := ge_aload_n_0 (by decide +kernel)
theorem d_X11_isAllSeen_85 : decode prog_1_method_55_code 85 = .ok (.aload_n 0, 1) := ge_aload_n_0 (by decide +kernel)
theorem d_X11_isAllSeen_86 : decode prog_1_method_55_code 86 = .ok (.getfield 60, 3) := ge_getfield (by decide +kernel)
theorem d_X11_isAllSeen_89 : decode prog_1_method_55_code 89 = .ok (.getfield 233, 3) := ge_getfield (by decide +kernel)
theorem d_X11_isAllSeen_92 : decode prog_1_method_55_code 92 = .ok (.iload 4, 2) := ge_iload (by decide +kernel)
theorem d_X11_isAllSeen_94 : decode prog_1_method_55_code 94 = .ok (.iconst 2, 1) := ge_iconst_2 (by decide +kernel)
theorem d_X11_isAllSeen_95 : decode prog_1_method_55_code 95 = .ok (.invokevirtual 262, 3) := ge_invokevirtual (by decide +kernel)
theorem d_X11_isAllSeen_98 : decode prog_1_method_55_code 98 = .ok (.invokevirtual 289, 3) := ge_invokevirtual (by decide +kernel)
theorem d_X11_isAllSeen_101 : decode prog_1_method_55_code 101 = .ok (.aload_n 0, 1) := ge_aload_n_0 (by decide +kernel)
theorem d_X11_isAllSeen_102 : decode prog_1_method_55_code 102 = .ok (.getfield 60, 3) := ge_getfield (by decide +kernel)
theorem d_X11_isAllSeen_105 : decode prog_1_method_55_code 105 = .ok (.getfield 233, 3) := ge_getfield (by decide +kernel)
theorem d_X11_isAllSeen_108 : decode prog_1_method_55_code 108 = .ok (.iload 4, 2) := ge_iload (by decide +kernel)
theorem d_X11_isAllSeen_110 : decode prog_1_method_55_code 110 = .ok (.iconst 1, 1) := ge_iconst_1 (by decide +kernel)
theorem d_X11_isAllSeen_111 : decode prog_1_method_55_code 111 = .ok (.invokevirtual 262, 3) := ge_invokevirtual (by decide +kernel)
theorem d_X11_isAllSeen_114 : decode prog_1_method_55_code 114 = .ok (.if_icmp .eq 5, 3) := ge_if_icmp_eq (by decide +kernel)
theorem d_X11_isAllSeen_117 : decode prog_1_method_55_code 117 = .ok (.iconst 0, 1) := ge_iconst_0 (by decide +kernel)
theorem d_X11_isAllSeen_118 : decode prog_1_method_55_code 118 = .ok (.ireturn, 1) := ge_ireturn (by decide +kernel)
theorem d_X11_isAllSeen_119 : decode prog_1_method_55_code 119 = .ok (.iinc 4 1, 3) := ge_iinc (by decide +kernel)
theorem d_X11_isAllSeen_122 : decode prog_1_method_55_code 122 = .ok (.goto (-119), 3) := ge_goto (by decide +kernel)
theorem d_X11_isAllSeen_125 : decode prog_1_method_55_code 125 = .ok (.iconst 1, 1) := ge_iconst_1 (by decide +kernel)
theorem d_X11_isAllSeen_126 : decode prog_1_method_55_code 126 = .ok (.ireturn, 1) := ge_ireturn (by decide +kernel)
def f_X11_isAllSeen (a0 : Nat) (a1 : Int32) (a2 : Int32) (a3 : Int32) (μ : gm_M) : Option (Option Value × gm_M) := gm_loop (fun (s1 : Int32 × gm_M) => gm_gR s1.2 [16] a0 1 (fun v2 => gm_gR s1.2 [13] v2 7 (fun v3 => gm_gI s1.2 [12] v3 2 (fun v4 => if v4 ≤ s1.1 then if (1 : Int32) = 0 ∨ (1 : Int32) = 1 then some (Sum.inr (some (.int (1 : Int32)), s1.2)) else none else gm_gR s1.2 [16] a0 1 (fun v5 => gm_gR s1.2 [13] v5 7 (fun v6 => if gm_tag s1.2 v6 = 12 then gm_bI (f_X7_cell v6 s1.1 (0 : Int32) s1.2) (fun x8 m7 => if gm_tag m7 a0 = 16 then gm_bI (f_X11_isNobody a0 x8 m7) (fun x10 m9 => gm_j (fun (s11 : gm_M) => some (Sum.inl ((s1.1 + (1 : Int32)), s11))) (fun j12 => if x10 = 0 then gm_gR m9 [16] a0 5 (fun v13 => gm_gR m9 [16] a0 1 (fun v14 => gm_gR m9 [13] v14 2 (fun v15 => gm_aR m9 4 v15 x8 (fun v16 => if gm_tag m9 v13 = 7 then gm_bV (f_X2_copy v13 v16 m9) (fun m17 => gm_j (fun (s19 : gm_M) => gm_gR s19 [16] a0 1 (fun v21 => gm_gR s19 [13] v21 7 (fun v22 => if gm_tag s19 v22 = 12 then gm_bI (f_X7_cell v22 s1.1 (2 : Int32) s19) (fun x24 m23 => if gm_tag m23 a0 = 16 then gm_bI (f_X11_trialBehind a0 x24 m23) (fun x26 m25 => gm_gR m25 [16] a0 1 (fun v27 => gm_gR m25 [13] v27 7 (fun v28 => if gm_tag m25 v28 = 12 then gm_bI (f_X7_cell v28 s1.1 (1 : Int32) m25) (fun x30 m29 => if x26 = x30 then j12 m29 else if (0 : Int32) = 0 ∨ (0 : Int32) = 1 then some (Sum.inr (some (.int (0 : Int32)), m29)) else none) else none))) else none) else none))) (fun j20 => if x8 ≠ a1 then j20 m17 else gm_gR m17 [16] a0 5 (fun v31 => gm_pI m17 [7] v31 2 a2 (fun m32 => gm_gR m32 [16] a0 5 (fun v33 => gm_pI m32 [7] v33 3 a3 (fun m34 => j20 m34)))))) else none)))) else j12 m9)) else none) else none)))))) 5000 ((0 : Int32), μ)
set_option maxHeartbeats 4000000 in
theorem c_X11_isAllSeen (a0 : Nat) (a1 : Int32) (a2 : Int32) (a3 : Int32) (μ : gm_M) : gm_Call ({ cls := "GumBubble", name := "isAllSeen", desc := "(III)Z" } : Jvm.MethodName) prog_1_method_55_code 6 (some .boolean) 5 0 0 [.ref a0, .int a1, .int a2, .int a3] μ (f_X11_isAllSeen a0 a1 a2 a3 μ) := by
  refine gm_start PN_11 (Nat.le_of_ble_eq_true rfl) (fun res μe => ?_)
  unfold f_X11_isAllSeen
  show gm_A "GumBubble" (gm_nm "isAllSeen") _ _ _ _ _ _ _ _ _ 0 [(0, .ref a0), (1, .int a1), (2, .int a2), (3, .int a3)] [] _ _
  refine gm_iconst (v := 0) d_X11_isAllSeen_0 (by decide) ?_
  refine gm_istore (L' := [(4, .int (0 : Int32)), (0, .ref a0), (1, .int a1), (2, .int a2), (3, .int a3)]) d_X11_isAllSeen_1 (Nat.le_of_ble_eq_true rfl) rfl ?_
  refine gm_sub (L' := [(0, .ref a0), (1, .int a1), (2, .int a2), (3, .int a3), (4, .int (0 : Int32))]) [1, 2, 3, 4, 0] rfl ?_
  refine gm_lp (S := Int32 × gm_M) (fun _ => 0) (fun _ => 0) (fun s1 => s1.2) (fun s1 => [(0, .ref a0), (1, .int a1), (2, .int a2), (3, .int a3), (4, .int s1.1)]) (fun _ => []) (fun s1 => ?_) 5000 ((0 : Int32), μ)
  refine gm_iload d_X11_isAllSeen_3 4 rfl ?_
  refine gm_aload_n d_X11_isAllSeen_5 rfl 0 rfl ?_
  refine gm_getR F_11_now gw_262 d_X11_isAllSeen_6 (fun v2 _ => ?_)
  refine gm_getR F_8_seen gw_233 d_X11_isAllSeen_9 (fun v3 _ => ?_)
  refine gm_getI F_7_count gw_43 d_X11_isAllSeen_12 (fun v4 _ => ?_)
  refine gm_icmp_ge (tgt := 125) d_X11_isAllSeen_15 (by decide) (fun h15 => ?_) (fun h15 => ?_)
  ·
    refine gm_iconst (v := 1) d_X11_isAllSeen_125 (by decide) ?_
    exact gm_zret rfl d_X11_isAllSeen_126 (Nat.le_of_ble_eq_true rfl) (Nat.le_of_ble_eq_true rfl) (fun h => h)
  ·
    refine gm_aload_n d_X11_isAllSeen_18 rfl 0 rfl ?_
    refine gm_getR F_11_now gw_262 d_X11_isAllSeen_19 (fun v5 _ => ?_)
    refine gm_getR F_8_seen gw_233 d_X11_isAllSeen_22 (fun v6 _ => ?_)
    refine gm_iload d_X11_isAllSeen_25 4 rfl ?_
    refine gm_iconst (v := 0) d_X11_isAllSeen_27 (by decide) ?_
    refine gm_grd (fun g28 => ?_)
    refine gm_callV (k0 := 7) [.int s1.1, .int (0 : Int32)] (c_X7_cell v6 s1.1 (0 : Int32) s1.2) g28 rfl B_X7_cell gw_734 gw_736 rfl rfl rfl d_X11_isAllSeen_28 (gm_kI (fun x8 m7 => ?_))
    refine gm_istore (L' := [(5, .int x8), (0, .ref a0), (1, .int a1), (2, .int a2), (3, .int a3), (4, .int s1.1)]) d_X11_isAllSeen_31 (Nat.le_of_ble_eq_true rfl) rfl ?_
    refine gm_aload_n d_X11_isAllSeen_33 rfl 1 rfl ?_
    refine gm_iload d_X11_isAllSeen_34 0 rfl ?_
    refine gm_grd (fun g36 => ?_)
    refine gm_callV (k0 := 11) [.int x8] (c_X11_isNobody a0 x8 m7) g36 rfl B_X11_isNobody gw_478 gs_11 rfl rfl rfl d_X11_isAllSeen_36 (gm_kI (fun x10 m9 => ?_))
    refine gm_join (S := gm_M) (pj := 119) (kj := 0) (nj := 0) (fun s11 => s11) (fun s11 => [(0, .ref a0), (1, .int a1), (2, .int a2), (3, .int a3), (4, .int s1.1), (5, .int x8)]) (fun s11 => []) (fun s11 => ?_) (fun j12 hj12 => ?_)
    ·
      refine gm_iinc (v := s1.1 + (1 : Int32)) (L' := [(4, .int (s1.1 + (1 : Int32))), (0, .ref a0), (1, .int a1), (2, .int a2), (3, .int a3), (5, .int x8)]) d_X11_isAllSeen_119 4 rfl rfl (Nat.le_of_ble_eq_true rfl) rfl ?_
      refine gm_goto (tgt := 3) d_X11_isAllSeen_122 (by decide) ?_
      refine gm_sub (L' := [(0, .ref a0), (1, .int a1), (2, .int a2), (3, .int a3), (4, .int (s1.1 + (1 : Int32)))]) [1, 2, 3, 4, 0] rfl ?_
      exact gm_back (fun h => h)
    ·
      refine gm_if_eq (tgt := 45) d_X11_isAllSeen_39 (by decide) (fun h39 => ?_) (fun h39 => ?_)
      ·
        refine gm_aload_n d_X11_isAllSeen_45 rfl 1 rfl ?_
        refine gm_getR F_11_trial gw_266 d_X11_isAllSeen_46 (fun v13 _ => ?_)
        refine gm_aload_n d_X11_isAllSeen_49 rfl 1 rfl ?_
        refine gm_getR F_11_now gw_262 d_X11_isAllSeen_50 (fun v14 _ => ?_)
        refine gm_getR F_8_children gw_223 d_X11_isAllSeen_53 (fun v15 _ => ?_)
        refine gm_iload d_X11_isAllSeen_56 0 rfl ?_
        refine gm_aald (Or.inr rfl) d_X11_isAllSeen_58 (fun v16 _ => ?_)
        refine gm_grd (fun g59 => ?_)
        refine gm_callV (k0 := 2) [.ref v16] (c_X2_copy v13 v16 m9) g59 rfl B_X2_copy gw_585 gw_587 rfl rfl rfl d_X11_isAllSeen_59 (gm_kV (fun m17 => ?_))
        refine gm_iload d_X11_isAllSeen_62 0 rfl ?_
        refine gm_iload_n d_X11_isAllSeen_64 rfl 2 rfl ?_
        refine gm_join (S := gm_M) (pj := 84) (kj := 0) (nj := 0) (fun s19 => s19) (fun s19 => [(0, .ref a0), (1, .int a1), (2, .int a2), (3, .int a3), (4, .int s1.1), (5, .int x8)]) (fun s19 => []) (fun s19 => ?_) (fun j20 hj20 => ?_)
        ·
          refine gm_aload_n d_X11_isAllSeen_84 rfl 0 rfl ?_
          refine gm_aload_n d_X11_isAllSeen_85 rfl 0 rfl ?_
          refine gm_getR F_11_now gw_262 d_X11_isAllSeen_86 (fun v21 _ => ?_)
          refine gm_getR F_8_seen gw_233 d_X11_isAllSeen_89 (fun v22 _ => ?_)
          refine gm_iload d_X11_isAllSeen_92 4 rfl ?_
          refine gm_iconst (v := 2) d_X11_isAllSeen_94 (by decide) ?_
          refine gm_grd (fun g95 => ?_)
          refine gm_callV (k0 := 7) [.int s1.1, .int (2 : Int32)] (c_X7_cell v22 s1.1 (2 : Int32) s19) g95 rfl B_X7_cell gw_734 gw_736 rfl rfl rfl d_X11_isAllSeen_95 (gm_kI (fun x24 m23 => ?_))
          refine gm_grd (fun g98 => ?_)
          refine gm_callV (k0 := 11) [.int x24] (c_X11_trialBehind a0 x24 m23) g98 rfl B_X11_trialBehind gw_592 gs_16 rfl rfl rfl d_X11_isAllSeen_98 (gm_kI (fun x26 m25 => ?_))
          refine gm_aload_n d_X11_isAllSeen_101 rfl 0 rfl ?_
          refine gm_getR F_11_now gw_262 d_X11_isAllSeen_102 (fun v27 _ => ?_)
          refine gm_getR F_8_seen gw_233 d_X11_isAllSeen_105 (fun v28 _ => ?_)
          refine gm_iload d_X11_isAllSeen_108 4 rfl ?_
          refine gm_iconst (v := 1) d_X11_isAllSeen_110 (by decide) ?_
          refine gm_grd (fun g111 => ?_)
          refine gm_callV (k0 := 7) [.int s1.1, .int (1 : Int32)] (c_X7_cell v28 s1.1 (1 : Int32) m25) g111 rfl B_X7_cell gw_734 gw_736 rfl rfl rfl d_X11_isAllSeen_111 (gm_kI (fun x30 m29 => ?_))
          refine gm_icmp_eq (tgt := 119) d_X11_isAllSeen_114 (by decide) (fun h114 => ?_) (fun h114 => ?_)
          ·
            exact hj12 m29
          ·
            refine gm_iconst (v := 0) d_X11_isAllSeen_117 (by decide) ?_
            exact gm_zret rfl d_X11_isAllSeen_118 (Nat.le_of_ble_eq_true rfl) (Nat.le_of_ble_eq_true rfl) (fun h => h)
        ·
          refine gm_icmp_ne (tgt := 84) d_X11_isAllSeen_65 (by decide) (fun h65 => ?_) (fun h65 => ?_)
          ·
            refine gm_sub (L' := [(0, .ref a0), (1, .int a1), (2, .int a2), (3, .int a3), (4, .int s1.1), (5, .int x8)]) [1, 2, 3, 4, 5, 0] rfl ?_
            exact hj20 m17
          ·
            refine gm_aload_n d_X11_isAllSeen_68 rfl 1 rfl ?_
            refine gm_getR F_11_trial gw_266 d_X11_isAllSeen_69 (fun v31 _ => ?_)
            refine gm_iload_n d_X11_isAllSeen_72 rfl 3 rfl ?_
            refine gm_putI F_2_v (Or.inl rfl) gw_177 d_X11_isAllSeen_73 (fun m32 _ => ?_)
            refine gm_aload_n d_X11_isAllSeen_76 rfl 1 rfl ?_
            refine gm_getR F_11_trial gw_266 d_X11_isAllSeen_77 (fun v33 _ => ?_)
            refine gm_iload_n d_X11_isAllSeen_80 rfl 4 rfl ?_
            refine gm_putI F_2_pieces (Or.inl rfl) gw_185 d_X11_isAllSeen_81 (fun m34 _ => ?_)
            refine gm_sub (L' := [(0, .ref a0), (1, .int a1), (2, .int a2), (3, .int a3), (4, .int s1.1), (5, .int x8)]) [1, 2, 3, 4, 5, 0] rfl ?_
            exact hj20 m34
      ·
        refine gm_goto (tgt := 119) d_X11_isAllSeen_42 (by decide) ?_
        refine gm_sub (L' := [(0, .ref a0), (1, .int a1), (2, .int a2), (3, .int a3), (4, .int s1.1), (5, .int x8)]) [1, 2, 3, 4, 5, 0] rfl ?_
        exact hj12 m9
theorem d_X11_firm_0 : decode prog_1_method_26_code 0 = .ok (.aload_n 0, 1) := ge_aload_n_0 (by decide +kernel)
theorem d_X11_firm_1 : decode prog_1_method_26_code 1 = .ok (.iload_n 1, 1) := ge_iload_n_1 (by decide +kernel)
theorem d_X11_firm_2 : decode prog_1_method_26_code 2 = .ok (.invokevirtual 115, 3) := ge_invokevirtual (by decide +kernel)
theorem d_X11_firm_5 : decode prog_1_method_26_code 5 = .ok (.ifCond .ne 12, 3) := ge_ifCond_ne (by decide +kernel)
theorem d_X11_firm_8 : decode prog_1_method_26_code 8 = .ok (.iload_n 2, 1) := ge_iload_n_2 (by decide +kernel)
theorem d_X11_firm_9 : decode prog_1_method_26_code 9 = .ok (.iconst 0, 1) := ge_iconst_0 (by decide +kernel)
theorem d_X11_firm_10 : decode prog_1_method_26_code 10 = .ok (.iconst 1, 1) := ge_iconst_1 (by decide +kernel)
theorem d_X11_firm_11 : decode prog_1_method_26_code 11 = .ok (.invokestatic 76, 3) := ge_invokestatic (by decide +kernel)
theorem d_X11_firm_14 : decode prog_1_method_26_code 14 = .ok (.ifCond .eq 5, 3) := ge_ifCond_eq (by decide +kernel)
theorem d_X11_firm_17 : decode prog_1_method_26_code 17 = .ok (.iconst (-1), 1) := ge_iconst_m1_ (by decide +kernel)
theorem d_X11_firm_18 : decode prog_1_method_26_code 18 = .ok (.ireturn, 1) := ge_ireturn (by decide +kernel)
theorem d_X11_firm_19 : decode prog_1_method_26_code 19 = .ok (.iconst 0, 1) := ge_iconst_0 (by decide +kernel)
theorem d_X11_firm_20 : decode prog_1_method_26_code 20 = .ok (.istore_n 3, 1) := ge_istore_n_3 (by decide +kernel)
theorem d_X11_firm_21 : decode prog_1_method_26_code 21 = .ok (.bipush (-5), 2) := ge_bipush (by decide +kernel)
theorem d_X11_firm_23 : decode prog_1_method_26_code 23 = .ok (.istore 4, 2) := ge_istore (by decide +kernel)
theorem d_X11_firm_25 : decode prog_1_method_26_code 25 = .ok (.bipush 9, 2) := ge_bipush (by decide +kernel)
theorem d_X11_firm_27 : decode prog_1_method_26_code 27 = .ok (.istore 5, 2) := ge_istore (by decide +kernel)
theorem d_X11_firm_29 : decode prog_1_method_26_code 29 = .ok (.iload 5, 2) := ge_iload (by decide +kernel)
theorem d_X11_firm_31 : decode prog_1_method_26_code 31 = .ok (.ifCond .lt 38, 3) := ge_ifCond_lt (by decide +kernel)
theorem d_X11_firm_34 : decode prog_1_method_26_code 34 = .ok (.aload_n 0, 1) := ge_aload_n_0 (by decide +kernel)
theorem d_X11_firm_35 : decode prog_1_method_26_code 35 = .ok (.iload_n 1, 1) := ge_iload_n_1 (by decide +kernel)
theorem d_X11_firm_36 : decode prog_1_method_26_code 36 = .ok (.iload 5, 2) := ge_iload (by decide +kernel)
theorem d_X11_firm_38 : decode prog_1_method_26_code 38 = .ok (.aload_n 0, 1) := ge_aload_n_0 (by decide +kernel)
theorem d_X11_firm_39 : decode prog_1_method_26_code 39 = .ok (.getfield 60, 3) := ge_getfield (by decide +kernel)
theorem d_X11_firm_42 : decode prog_1_method_26_code 42 = .ok (.getfield 104, 3) := ge_getfield (by decide +kernel)
theorem d_X11_firm_45 : decode prog_1_method_26_code 45 = .ok (.iload_n 1, 1) := ge_iload_n_1 (by decide +kernel)
theorem d_X11_firm_46 : decode prog_1_method_26_code 46 = .ok (.aaload, 1) := ge_aaload (by decide +kernel)
theorem d_X11_firm_47 : decode prog_1_method_26_code 47 = .ok (.getfield 129, 3) := ge_getfield (by decide +kernel)
theorem d_X11_firm_50 : decode prog_1_method_26_code 50 = .ok (.invokevirtual 247, 3) := ge_invokevirtual (by decide +kernel)
theorem d_X11_firm_53 : decode prog_1_method_26_code 53 = .ok (.ifCond .eq 10, 3) := ge_ifCond_eq (by decide +kernel)
theorem d_X11_firm_56 : decode prog_1_method_26_code 56 = .ok (.iinc 3 1, 3) := ge_iinc (by decide +kernel)
theorem d_X11_firm_59 : decode prog_1_method_26_code 59 = .ok (.iload 5, 2) := ge_iload (by decide +kernel)
theorem d_X11_firm_61 : decode prog_1_method_26_code 61 = .ok (.istore 4, 2) := ge_istore (by decide +kernel)
theorem d_X11_firm_63 : decode prog_1_method_26_code 63 = .ok (.iinc 5 (-1), 3) := ge_iinc (by decide +kernel)
theorem d_X11_firm_66 : decode prog_1_method_26_code 66 = .ok (.goto (-37), 3) := ge_goto (by decide +kernel)
theorem d_X11_firm_69 : decode prog_1_method_26_code 69 = .ok (.iload_n 2, 1) := ge_iload_n_2 (by decide +kernel)
theorem d_X11_firm_70 : decode prog_1_method_26_code 70 = .ok (.ifCond .ne 7, 3) := ge_ifCond_ne (by decide +kernel)
theorem d_X11_firm_73 : decode prog_1_method_26_code 73 = .ok (.iload_n 3, 1) := ge_iload_n_3 (by decide +kernel)
theorem d_X11_firm_74 : decode prog_1_method_26_code 74 = .ok (.goto 5, 3) := ge_goto (by decide +kernel)
theorem d_X11_firm_77 : decode prog_1_method_26_code 77 = .ok (.iload 4, 2) := ge_iload (by decide +kernel)
theorem d_X11_firm_79 : decode prog_1_method_26_code 79 = .ok (.ireturn, 1) := ge_ireturn (by decide +kernel)
def f_X11_firm (a0 : Nat) (a1 : Int32) (a2 : Int32) (μ : gm_M) : Option (Option Value × gm_M) := if gm_tag μ a0 = 16 then gm_bI (f_X11_isNobody a0 a1 μ) (fun x2 m1 => if x2 ≠ 0 then some (some (.int (-1 : Int32)), m1) else gm_bI (f_X11_isOutside a2 (0 : Int32) (1 : Int32) m1) (fun x4 m3 => if x4 = 0 then gm_loop (fun (s5 : Int32 × Int32 × Int32 × gm_M) => if s5.2.2.1 < 0 then if a2 ≠ 0 then some (Sum.inr (some (.int s5.2.1), s5.2.2.2)) else some (Sum.inr (some (.int s5.1), s5.2.2.2)) else gm_gR s5.2.2.2 [16] a0 1 (fun v6 => gm_gR s5.2.2.2 [13] v6 2 (fun v7 => gm_aR s5.2.2.2 4 v7 a1 (fun v8 => gm_gI s5.2.2.2 [7] v8 3 (fun v9 => if gm_tag s5.2.2.2 a0 = 16 then gm_bI (f_X11_isAllSeen a0 a1 s5.2.2.1 v9 s5.2.2.2) (fun x11 m10 => gm_j (fun (s12 : Int32 × Int32) => some (Sum.inl (s12.1, s12.2, (s5.2.2.1 + (-1 : Int32)), m10))) (fun j13 => if x11 = 0 then j13 (s5.1, s5.2.1) else j13 ((s5.1 + (1 : Int32)), s5.2.2.1))) else none))))) 5000 ((0 : Int32), (-5 : Int32), (9 : Int32), m3) else some (some (.int (-1 : Int32)), m3))) else none
set_option maxHeartbeats 4000000 in
theorem c_X11_firm (a0 : Nat) (a1 : Int32) (a2 : Int32) (μ : gm_M) : gm_Call ({ cls := "GumBubble", name := "firm", desc := "(II)I" } : Jvm.MethodName) prog_1_method_26_code 6 (some .int) 6 0 0 [.ref a0, .int a1, .int a2] μ (f_X11_firm a0 a1 a2 μ) := by
  refine gm_start PN_11 (Nat.le_of_ble_eq_true rfl) (fun res μe => ?_)
  unfold f_X11_firm
  show gm_A "GumBubble" (gm_nm "firm") _ _ _ _ _ _ _ _ _ 0 [(0, .ref a0), (1, .int a1), (2, .int a2)] [] _ _
  refine gm_aload_n d_X11_firm_0 rfl 0 rfl ?_
  refine gm_iload_n d_X11_firm_1 rfl 1 rfl ?_
  refine gm_grd (fun g2 => ?_)
  refine gm_callV (k0 := 11) [.int a1] (c_X11_isNobody a0 a1 μ) g2 rfl B_X11_isNobody gw_478 gs_11 rfl rfl rfl d_X11_firm_2 (gm_kI (fun x2 m1 => ?_))
  refine gm_if_ne (tgt := 17) d_X11_firm_5 (by decide) (fun h5 => ?_) (fun h5 => ?_)
  ·
    refine gm_iconst (v := -1) d_X11_firm_17 (by decide) ?_
    exact gm_iret rfl d_X11_firm_18 (Nat.le_of_ble_eq_true rfl) (Nat.le_of_ble_eq_true rfl) (fun h => h)
  ·
    refine gm_iload_n d_X11_firm_8 rfl 2 rfl ?_
    refine gm_iconst (v := 0) d_X11_firm_9 (by decide) ?_
    refine gm_iconst (v := 1) d_X11_firm_10 (by decide) ?_
    refine gm_callS [.int a2, .int (0 : Int32), .int (1 : Int32)] (c_X11_isOutside a2 (0 : Int32) (1 : Int32) m1) B_X11_isOutside gw_296 rfl rfl rfl d_X11_firm_11 (gm_kI (fun x4 m3 => ?_))
    refine gm_if_eq (tgt := 19) d_X11_firm_14 (by decide) (fun h14 => ?_) (fun h14 => ?_)
    ·
      refine gm_iconst (v := 0) d_X11_firm_19 (by decide) ?_
      refine gm_istore_n (L' := [(3, .int (0 : Int32)), (0, .ref a0), (1, .int a1), (2, .int a2)]) d_X11_firm_20 rfl (Nat.le_of_ble_eq_true rfl) rfl ?_
      refine gm_bipush (v := -5) d_X11_firm_21 (by decide) ?_
      refine gm_istore (L' := [(4, .int (-5 : Int32)), (3, .int (0 : Int32)), (0, .ref a0), (1, .int a1), (2, .int a2)]) d_X11_firm_23 (Nat.le_of_ble_eq_true rfl) rfl ?_
      refine gm_bipush (v := 9) d_X11_firm_25 (by decide) ?_
      refine gm_istore (L' := [(5, .int (9 : Int32)), (4, .int (-5 : Int32)), (3, .int (0 : Int32)), (0, .ref a0), (1, .int a1), (2, .int a2)]) d_X11_firm_27 (Nat.le_of_ble_eq_true rfl) rfl ?_
      refine gm_sub (L' := [(0, .ref a0), (1, .int a1), (2, .int a2), (3, .int (0 : Int32)), (4, .int (-5 : Int32)), (5, .int (9 : Int32))]) [3, 4, 5, 2, 1, 0] rfl ?_
      refine gm_lp (S := Int32 × Int32 × Int32 × gm_M) (fun _ => 0) (fun _ => 0) (fun s5 => s5.2.2.2) (fun s5 => [(0, .ref a0), (1, .int a1), (2, .int a2), (3, .int s5.1), (4, .int s5.2.1), (5, .int s5.2.2.1)]) (fun _ => []) (fun s5 => ?_) 5000 ((0 : Int32), (-5 : Int32), (9 : Int32), m3)
      refine gm_iload d_X11_firm_29 5 rfl ?_
      refine gm_if_lt (tgt := 69) d_X11_firm_31 (by decide) (fun h31 => ?_) (fun h31 => ?_)
      ·
        refine gm_iload_n d_X11_firm_69 rfl 2 rfl ?_
        refine gm_if_ne (tgt := 77) d_X11_firm_70 (by decide) (fun h70 => ?_) (fun h70 => ?_)
        ·
          refine gm_iload d_X11_firm_77 4 rfl ?_
          exact gm_iret rfl d_X11_firm_79 (Nat.le_of_ble_eq_true rfl) (Nat.le_of_ble_eq_true rfl) (fun h => h)
        ·
          refine gm_iload_n d_X11_firm_73 rfl 3 rfl ?_
          refine gm_goto (tgt := 79) d_X11_firm_74 (by decide) ?_
          exact gm_iret rfl d_X11_firm_79 (Nat.le_of_ble_eq_true rfl) (Nat.le_of_ble_eq_true rfl) (fun h => h)
      ·
        refine gm_aload_n d_X11_firm_34 rfl 0 rfl ?_
        refine gm_iload_n d_X11_firm_35 rfl 1 rfl ?_
        refine gm_iload d_X11_firm_36 5 rfl ?_
        refine gm_aload_n d_X11_firm_38 rfl 0 rfl ?_
        refine gm_getR F_11_now gw_262 d_X11_firm_39 (fun v6 _ => ?_)
        refine gm_getR F_8_children gw_223 d_X11_firm_42 (fun v7 _ => ?_)
        refine gm_iload_n d_X11_firm_45 rfl 1 rfl ?_
        refine gm_aald (Or.inr rfl) d_X11_firm_46 (fun v8 _ => ?_)
        refine gm_getI F_2_pieces gw_185 d_X11_firm_47 (fun v9 _ => ?_)
        refine gm_grd (fun g50 => ?_)
        refine gm_callV (k0 := 11) [.int a1, .int s5.2.2.1, .int v9] (c_X11_isAllSeen a0 a1 s5.2.2.1 v9 s5.2.2.2) g50 rfl B_X11_isAllSeen gw_730 gs_22 rfl rfl rfl d_X11_firm_50 (gm_kI (fun x11 m10 => ?_))
        refine gm_join (S := Int32 × Int32) (pj := 63) (kj := 0) (nj := 0) (fun s12 => m10) (fun s12 => [(0, .ref a0), (1, .int a1), (2, .int a2), (3, .int s12.1), (4, .int s12.2), (5, .int s5.2.2.1)]) (fun s12 => []) (fun s12 => ?_) (fun j13 hj13 => ?_)
        ·
          refine gm_iinc (v := s5.2.2.1 + (-1 : Int32)) (L' := [(5, .int (s5.2.2.1 + (-1 : Int32))), (0, .ref a0), (1, .int a1), (2, .int a2), (3, .int s12.1), (4, .int s12.2)]) d_X11_firm_63 5 rfl rfl (Nat.le_of_ble_eq_true rfl) rfl ?_
          refine gm_goto (tgt := 29) d_X11_firm_66 (by decide) ?_
          refine gm_sub (L' := [(0, .ref a0), (1, .int a1), (2, .int a2), (3, .int s12.1), (4, .int s12.2), (5, .int (s5.2.2.1 + (-1 : Int32)))]) [1, 2, 3, 4, 5, 0] rfl ?_
          exact gm_back (fun h => h)
        ·
          refine gm_if_eq (tgt := 63) d_X11_firm_53 (by decide) (fun h53 => ?_) (fun h53 => ?_)
          ·
            exact hj13 (s5.1, s5.2.1)
          ·
            refine gm_iinc (v := s5.1 + (1 : Int32)) (L' := [(3, .int (s5.1 + (1 : Int32))), (0, .ref a0), (1, .int a1), (2, .int a2), (4, .int s5.2.1), (5, .int s5.2.2.1)]) d_X11_firm_56 3 rfl rfl (Nat.le_of_ble_eq_true rfl) rfl ?_
            refine gm_iload d_X11_firm_59 5 rfl ?_
            refine gm_istore (L' := [(4, .int s5.2.2.1), (3, .int (s5.1 + (1 : Int32))), (0, .ref a0), (1, .int a1), (2, .int a2), (5, .int s5.2.2.1)]) d_X11_firm_61 (Nat.le_of_ble_eq_true rfl) rfl ?_
            refine gm_sub (L' := [(0, .ref a0), (1, .int a1), (2, .int a2), (3, .int (s5.1 + (1 : Int32))), (4, .int s5.2.2.1), (5, .int s5.2.2.1)]) [2, 3, 4, 1, 0, 5] rfl ?_
            exact hj13 ((s5.1 + (1 : Int32)), s5.2.2.1)
    ·
      refine gm_iconst (v := -1) d_X11_firm_17 (by decide) ?_
      exact gm_iret rfl d_X11_firm_18 (Nat.le_of_ble_eq_true rfl) (Nat.le_of_ble_eq_true rfl) (fun h => h)
theorem d_X11_first_0 : decode prog_1_method_19_code 0 = .ok (.bipush (-5), 2) := ge_bipush (by decide +kernel)
theorem d_X11_first_2 : decode prog_1_method_19_code 2 = .ok (.istore_n 1, 1) := ge_istore_n_1 (by decide +kernel)
theorem d_X11_first_3 : decode prog_1_method_19_code 3 = .ok (.iconst (-1), 1) := ge_iconst_m1_ (by decide +kernel)
theorem d_X11_first_4 : decode prog_1_method_19_code 4 = .ok (.istore_n 2, 1) := ge_istore_n_2 (by decide +kernel)
theorem d_X11_first_5 : decode prog_1_method_19_code 5 = .ok (.iconst 0, 1) := ge_iconst_0 (by decide +kernel)
theorem d_X11_first_6 : decode prog_1_method_19_code 6 = .ok (.istore_n 3, 1) := ge_istore_n_3 (by decide +kernel)
theorem d_X11_first_7 : decode prog_1_method_19_code 7 = .ok (.iload_n 3, 1) := ge_iload_n_3 (by decide +kernel)
theorem d_X11_first_8 : decode prog_1_method_19_code 8 = .ok (.aload_n 0, 1) := ge_aload_n_0 (by decide +kernel)
theorem d_X11_first_9 : decode prog_1_method_19_code 9 = .ok (.getfield 60, 3) := ge_getfield (by decide +kernel)
theorem d_X11_first_12 : decode prog_1_method_19_code 12 = .ok (.getfield 101, 3) := ge_getfield (by decide +kernel)
theorem d_X11_first_15 : decode prog_1_method_19_code 15 = .ok (.if_icmp .ge 27, 3) := ge_if_icmp_ge (by decide +kernel)
theorem d_X11_first_18 : decode prog_1_method_19_code 18 = .ok (.aload_n 0, 1) := ge_aload_n_0 (by decide +kernel)
theorem d_X11_first_19 : decode prog_1_method_19_code 19 = .ok (.iload_n 3, 1) := ge_iload_n_3 (by decide +kernel)
theorem d_X11_first_20 : decode prog_1_method_19_code 20 = .ok (.invokevirtual 158, 3) := ge_invokevirtual (by decide +kernel)
theorem d_X11_first_23 : decode prog_1_method_19_code 23 = .ok (.istore 4, 2) := ge_istore (by decide +kernel)
theorem d_X11_first_25 : decode prog_1_method_19_code 25 = .ok (.iload 4, 2) := ge_iload (by decide +kernel)
theorem d_X11_first_27 : decode prog_1_method_19_code 27 = .ok (.iload_n 2, 1) := ge_iload_n_2 (by decide +kernel)
theorem d_X11_first_28 : decode prog_1_method_19_code 28 = .ok (.if_icmp .le 8, 3) := ge_if_icmp_le (by decide +kernel)
theorem d_X11_first_31 : decode prog_1_method_19_code 31 = .ok (.iload 4, 2) := ge_iload (by decide +kernel)
theorem d_X11_first_33 : decode prog_1_method_19_code 33 = .ok (.istore_n 2, 1) := ge_istore_n_2 (by decide +kernel)
theorem d_X11_first_34 : decode prog_1_method_19_code 34 = .ok (.iload_n 3, 1) := ge_iload_n_3 (by decide +kernel)
theorem d_X11_first_35 : decode prog_1_method_19_code 35 = .ok (.istore_n 1, 1) := ge_istore_n_1 (by decide +kernel)
theorem d_X11_first_36 : decode prog_1_method_19_code 36 = .ok (.iinc 3 1, 3) := ge_iinc (by decide +kernel)
theorem d_X11_first_39 : decode prog_1_method_19_code 39 = .ok (.goto (-32), 3) := ge_goto (by decide +kernel)
theorem d_X11_first_42 : decode prog_1_method_19_code 42 = .ok (.iload_n 1, 1) := ge_iload_n_1 (by decide +kernel)
theorem d_X11_first_43 : decode prog_1_method_19_code 43 = .ok (.ireturn, 1) := ge_ireturn (by decide +kernel)
def f_X11_first (a0 : Nat) (μ : gm_M) : Option (Option Value × gm_M) := gm_loop (fun (s1 : Int32 × Int32 × Int32 × gm_M) => gm_gR s1.2.2.2 [16] a0 1 (fun v2 => gm_gI s1.2.2.2 [13] v2 1 (fun v3 => if v3 ≤ s1.2.2.1 then some (Sum.inr (some (.int s1.1), s1.2.2.2)) else if gm_tag s1.2.2.2 a0 = 16 then gm_bI (f_X11_holdsNow a0 s1.2.2.1 s1.2.2.2) (fun x5 m4 => gm_j (fun (s6 : Int32 × Int32) => some (Sum.inl (s6.1, s6.2, (s1.2.2.1 + (1 : Int32)), m4))) (fun j7 => if x5 ≤ s1.2.1 then j7 (s1.1, s1.2.1) else j7 (s1.2.2.1, x5))) else none))) 5000 ((-5 : Int32), (-1 : Int32), (0 : Int32), μ)
set_option maxHeartbeats 4000000 in
theorem c_X11_first (a0 : Nat) (μ : gm_M) : gm_Call ({ cls := "GumBubble", name := "first", desc := "()I" } : Jvm.MethodName) prog_1_method_19_code 5 (some .int) 5 0 0 [.ref a0] μ (f_X11_first a0 μ) := by
  refine gm_start PN_11 (Nat.le_of_ble_eq_true rfl) (fun res μe => ?_)
  unfold f_X11_first
  show gm_A "GumBubble" (gm_nm "first") _ _ _ _ _ _ _ _ _ 0 [(0, .ref a0)] [] _ _
  refine gm_bipush (v := -5) d_X11_first_0 (by decide) ?_
  refine gm_istore_n (L' := [(1, .int (-5 : Int32)), (0, .ref a0)]) d_X11_first_2 rfl (Nat.le_of_ble_eq_true rfl) rfl ?_
  refine gm_iconst (v := -1) d_X11_first_3 (by decide) ?_
  refine gm_istore_n (L' := [(2, .int (-1 : Int32)), (1, .int (-5 : Int32)), (0, .ref a0)]) d_X11_first_4 rfl (Nat.le_of_ble_eq_true rfl) rfl ?_
  refine gm_iconst (v := 0) d_X11_first_5 (by decide) ?_
  refine gm_istore_n (L' := [(3, .int (0 : Int32)), (2, .int (-1 : Int32)), (1, .int (-5 : Int32)), (0, .ref a0)]) d_X11_first_6 rfl (Nat.le_of_ble_eq_true rfl) rfl ?_
  refine gm_sub (L' := [(0, .ref a0), (1, .int (-5 : Int32)), (2, .int (-1 : Int32)), (3, .int (0 : Int32))]) [3, 2, 1, 0] rfl ?_
  refine gm_lp (S := Int32 × Int32 × Int32 × gm_M) (fun _ => 0) (fun _ => 0) (fun s1 => s1.2.2.2) (fun s1 => [(0, .ref a0), (1, .int s1.1), (2, .int s1.2.1), (3, .int s1.2.2.1)]) (fun _ => []) (fun s1 => ?_) 5000 ((-5 : Int32), (-1 : Int32), (0 : Int32), μ)
  refine gm_iload_n d_X11_first_7 rfl 3 rfl ?_
  refine gm_aload_n d_X11_first_8 rfl 0 rfl ?_
  refine gm_getR F_11_now gw_262 d_X11_first_9 (fun v2 _ => ?_)
  refine gm_getI F_8_size gw_221 d_X11_first_12 (fun v3 _ => ?_)
  refine gm_icmp_ge (tgt := 42) d_X11_first_15 (by decide) (fun h15 => ?_) (fun h15 => ?_)
  ·
    refine gm_iload_n d_X11_first_42 rfl 1 rfl ?_
    exact gm_iret rfl d_X11_first_43 (Nat.le_of_ble_eq_true rfl) (Nat.le_of_ble_eq_true rfl) (fun h => h)
  ·
    refine gm_aload_n d_X11_first_18 rfl 0 rfl ?_
    refine gm_iload_n d_X11_first_19 rfl 3 rfl ?_
    refine gm_grd (fun g20 => ?_)
    refine gm_callV (k0 := 11) [.int s1.2.2.1] (c_X11_holdsNow a0 s1.2.2.1 s1.2.2.2) g20 rfl B_X11_holdsNow gw_541 gs_13 rfl rfl rfl d_X11_first_20 (gm_kI (fun x5 m4 => ?_))
    refine gm_istore (L' := [(4, .int x5), (0, .ref a0), (1, .int s1.1), (2, .int s1.2.1), (3, .int s1.2.2.1)]) d_X11_first_23 (Nat.le_of_ble_eq_true rfl) rfl ?_
    refine gm_iload d_X11_first_25 0 rfl ?_
    refine gm_iload_n d_X11_first_27 rfl 3 rfl ?_
    refine gm_join (S := Int32 × Int32) (pj := 36) (kj := 0) (nj := 0) (fun s6 => m4) (fun s6 => [(0, .ref a0), (1, .int s6.1), (2, .int s6.2), (3, .int s1.2.2.1), (4, .int x5)]) (fun s6 => []) (fun s6 => ?_) (fun j7 hj7 => ?_)
    ·
      refine gm_iinc (v := s1.2.2.1 + (1 : Int32)) (L' := [(3, .int (s1.2.2.1 + (1 : Int32))), (0, .ref a0), (1, .int s6.1), (2, .int s6.2), (4, .int x5)]) d_X11_first_36 3 rfl rfl (Nat.le_of_ble_eq_true rfl) rfl ?_
      refine gm_goto (tgt := 7) d_X11_first_39 (by decide) ?_
      refine gm_sub (L' := [(0, .ref a0), (1, .int s6.1), (2, .int s6.2), (3, .int (s1.2.2.1 + (1 : Int32)))]) [1, 2, 3, 0] rfl ?_
      exact gm_back (fun h => h)
    ·
      refine gm_icmp_le (tgt := 36) d_X11_first_28 (by decide) (fun h28 => ?_) (fun h28 => ?_)
      ·
        refine gm_sub (L' := [(0, .ref a0), (1, .int s1.1), (2, .int s1.2.1), (3, .int s1.2.2.1), (4, .int x5)]) [1, 2, 3, 4, 0] rfl ?_
        exact hj7 (s1.1, s1.2.1)
      ·
        refine gm_iload d_X11_first_31 0 rfl ?_
        refine gm_istore_n (L' := [(2, .int x5), (4, .int x5), (0, .ref a0), (1, .int s1.1), (3, .int s1.2.2.1)]) d_X11_first_33 rfl (Nat.le_of_ble_eq_true rfl) rfl ?_
        refine gm_iload_n d_X11_first_34 rfl 4 rfl ?_
        refine gm_istore_n (L' := [(1, .int s1.2.2.1), (2, .int x5), (4, .int x5), (0, .ref a0), (3, .int s1.2.2.1)]) d_X11_first_35 rfl (Nat.le_of_ble_eq_true rfl) rfl ?_
        refine gm_sub (L' := [(0, .ref a0), (1, .int s1.2.2.1), (2, .int x5), (3, .int s1.2.2.1), (4, .int x5)]) [3, 0, 1, 4, 2] rfl ?_
        exact hj7 (s1.2.2.1, x5)
theorem d_X11_had_0 : decode prog_1_method_27_code 0 = .ok (.aload_n 0, 1) := ge_aload_n_0 (by decide +kernel)
theorem d_X11_had_1 : decode prog_1_method_27_code 1 = .ok (.iload_n 1, 1) := ge_iload_n_1 (by decide +kernel)
theorem d_X11_had_2 : decode prog_1_method_27_code 2 = .ok (.invokevirtual 115, 3) := ge_invokevirtual (by decide +kernel)
theorem d_X11_had_5 : decode prog_1_method_27_code 5 = .ok (.ifCond .eq 5, 3) := ge_ifCond_eq (by decide +kernel)
theorem d_X11_had_8 : decode prog_1_method_27_code 8 = .ok (.iconst (-1), 1) := ge_iconst_m1_ (by decide +kernel)
theorem d_X11_had_9 : decode prog_1_method_27_code 9 = .ok (.ireturn, 1) := ge_ireturn (by decide +kernel)
theorem d_X11_had_10 : decode prog_1_method_27_code 10 = .ok (.iconst 0, 1) := ge_iconst_0 (by decide +kernel)
theorem d_X11_had_11 : decode prog_1_method_27_code 11 = .ok (.istore_n 2, 1) := ge_istore_n_2 (by decide +kernel)
theorem d_X11_had_12 : decode prog_1_method_27_code 12 = .ok (.iconst 0, 1) := ge_iconst_0 (by decide +kernel)
theorem d_X11_had_13 : decode prog_1_method_27_code 13 = .ok (.istore_n 3, 1) := ge_istore_n_3 (by decide +kernel)
theorem d_X11_had_14 : decode prog_1_method_27_code 14 = .ok (.iload_n 3, 1) := ge_iload_n_3 (by decide +kernel)
theorem d_X11_had_15 : decode prog_1_method_27_code 15 = .ok (.bipush 6, 2) := ge_bipush (by decide +kernel)
theorem d_X11_had_17 : decode prog_1_method_27_code 17 = .ok (.if_icmp .gt 36, 3) := ge_if_icmp_gt (by decide +kernel)
theorem d_X11_had_20 : decode prog_1_method_27_code 20 = .ok (.aload_n 0, 1) := ge_aload_n_0 (by decide +kernel)
theorem d_X11_had_21 : decode prog_1_method_27_code 21 = .ok (.iload_n 1, 1) := ge_iload_n_1 (by decide +kernel)
theorem d_X11_had_22 : decode prog_1_method_27_code 22 = .ok (.aload_n 0, 1) := ge_aload_n_0 (by decide +kernel)
theorem d_X11_had_23 : decode prog_1_method_27_code 23 = .ok (.getfield 60, 3) := ge_getfield (by decide +kernel)
theorem d_X11_had_26 : decode prog_1_method_27_code 26 = .ok (.getfield 104, 3) := ge_getfield (by decide +kernel)
theorem d_X11_had_29 : decode prog_1_method_27_code 29 = .ok (.iload_n 1, 1) := ge_iload_n_1 (by decide +kernel)
theorem d_X11_had_30 : decode prog_1_method_27_code 30 = .ok (.aaload, 1) := ge_aaload (by decide +kernel)
theorem d_X11_had_31 : decode prog_1_method_27_code 31 = .ok (.getfield 126, 3) := ge_getfield (by decide +kernel)
theorem d_X11_had_34 : decode prog_1_method_27_code 34 = .ok (.iload_n 3, 1) := ge_iload_n_3 (by decide +kernel)
theorem d_X11_had_35 : decode prog_1_method_27_code 35 = .ok (.invokevirtual 247, 3) := ge_invokevirtual (by decide +kernel)
theorem d_X11_had_38 : decode prog_1_method_27_code 38 = .ok (.ifCond .eq 9, 3) := ge_ifCond_eq (by decide +kernel)
theorem d_X11_had_41 : decode prog_1_method_27_code 41 = .ok (.iload_n 2, 1) := ge_iload_n_2 (by decide +kernel)
theorem d_X11_had_42 : decode prog_1_method_27_code 42 = .ok (.iconst 1, 1) := ge_iconst_1 (by decide +kernel)
theorem d_X11_had_43 : decode prog_1_method_27_code 43 = .ok (.iload_n 3, 1) := ge_iload_n_3 (by decide +kernel)
theorem d_X11_had_44 : decode prog_1_method_27_code 44 = .ok (.ishl, 1) := ge_ishl (by decide +kernel)
theorem d_X11_had_45 : decode prog_1_method_27_code 45 = .ok (.ior, 1) := ge_ior (by decide +kernel)
theorem d_X11_had_46 : decode prog_1_method_27_code 46 = .ok (.istore_n 2, 1) := ge_istore_n_2 (by decide +kernel)
theorem d_X11_had_47 : decode prog_1_method_27_code 47 = .ok (.iinc 3 1, 3) := ge_iinc (by decide +kernel)
theorem d_X11_had_50 : decode prog_1_method_27_code 50 = .ok (.goto (-36), 3) := ge_goto (by decide +kernel)
theorem d_X11_had_53 : decode prog_1_method_27_code 53 = .ok (.iload_n 2, 1) := ge_iload_n_2 (by decide +kernel)
theorem d_X11_had_54 : decode prog_1_method_27_code 54 = .ok (.ireturn, 1) := ge_ireturn (by decide +kernel)
def f_X11_had (a0 : Nat) (a1 : Int32) (μ : gm_M) : Option (Option Value × gm_M) := if gm_tag μ a0 = 16 then gm_bI (f_X11_isNobody a0 a1 μ) (fun x2 m1 => if x2 = 0 then gm_loop (fun (s3 : Int32 × Int32 × gm_M) => if (6 : Int32) < s3.2.1 then some (Sum.inr (some (.int s3.1), s3.2.2)) else gm_gR s3.2.2 [16] a0 1 (fun v4 => gm_gR s3.2.2 [13] v4 2 (fun v5 => gm_aR s3.2.2 4 v5 a1 (fun v6 => gm_gI s3.2.2 [7] v6 2 (fun v7 => if gm_tag s3.2.2 a0 = 16 then gm_bI (f_X11_isAllSeen a0 a1 v7 s3.2.1 s3.2.2) (fun x9 m8 => gm_j (fun (s10 : Int32) => some (Sum.inl (s10, (s3.2.1 + (1 : Int32)), m8))) (fun j11 => if x9 = 0 then j11 s3.1 else j11 (s3.1 ||| ((1 : Int32) <<< (s3.2.1 &&& 31))))) else none))))) 5000 ((0 : Int32), (0 : Int32), m1) else some (some (.int (-1 : Int32)), m1)) else none
set_option maxHeartbeats 4000000 in
theorem c_X11_had (a0 : Nat) (a1 : Int32) (μ : gm_M) : gm_Call ({ cls := "GumBubble", name := "had", desc := "(I)I" } : Jvm.MethodName) prog_1_method_27_code 4 (some .int) 6 0 0 [.ref a0, .int a1] μ (f_X11_had a0 a1 μ) := by
  refine gm_start PN_11 (Nat.le_of_ble_eq_true rfl) (fun res μe => ?_)
  unfold f_X11_had
  show gm_A "GumBubble" (gm_nm "had") _ _ _ _ _ _ _ _ _ 0 [(0, .ref a0), (1, .int a1)] [] _ _
  refine gm_aload_n d_X11_had_0 rfl 0 rfl ?_
  refine gm_iload_n d_X11_had_1 rfl 1 rfl ?_
  refine gm_grd (fun g2 => ?_)
  refine gm_callV (k0 := 11) [.int a1] (c_X11_isNobody a0 a1 μ) g2 rfl B_X11_isNobody gw_478 gs_11 rfl rfl rfl d_X11_had_2 (gm_kI (fun x2 m1 => ?_))
  refine gm_if_eq (tgt := 10) d_X11_had_5 (by decide) (fun h5 => ?_) (fun h5 => ?_)
  ·
    refine gm_iconst (v := 0) d_X11_had_10 (by decide) ?_
    refine gm_istore_n (L' := [(2, .int (0 : Int32)), (0, .ref a0), (1, .int a1)]) d_X11_had_11 rfl (Nat.le_of_ble_eq_true rfl) rfl ?_
    refine gm_iconst (v := 0) d_X11_had_12 (by decide) ?_
    refine gm_istore_n (L' := [(3, .int (0 : Int32)), (2, .int (0 : Int32)), (0, .ref a0), (1, .int a1)]) d_X11_had_13 rfl (Nat.le_of_ble_eq_true rfl) rfl ?_
    refine gm_sub (L' := [(0, .ref a0), (1, .int a1), (2, .int (0 : Int32)), (3, .int (0 : Int32))]) [2, 3, 1, 0] rfl ?_
    refine gm_lp (S := Int32 × Int32 × gm_M) (fun _ => 0) (fun _ => 0) (fun s3 => s3.2.2) (fun s3 => [(0, .ref a0), (1, .int a1), (2, .int s3.1), (3, .int s3.2.1)]) (fun _ => []) (fun s3 => ?_) 5000 ((0 : Int32), (0 : Int32), m1)
    refine gm_iload_n d_X11_had_14 rfl 3 rfl ?_
    refine gm_bipush (v := 6) d_X11_had_15 (by decide) ?_
    refine gm_icmp_gt (tgt := 53) d_X11_had_17 (by decide) (fun h17 => ?_) (fun h17 => ?_)
    ·
      refine gm_iload_n d_X11_had_53 rfl 2 rfl ?_
      exact gm_iret rfl d_X11_had_54 (Nat.le_of_ble_eq_true rfl) (Nat.le_of_ble_eq_true rfl) (fun h => h)
    ·
      refine gm_aload_n d_X11_had_20 rfl 0 rfl ?_
      refine gm_iload_n d_X11_had_21 rfl 1 rfl ?_
      refine gm_aload_n d_X11_had_22 rfl 0 rfl ?_
      refine gm_getR F_11_now gw_262 d_X11_had_23 (fun v4 _ => ?_)
      refine gm_getR F_8_children gw_223 d_X11_had_26 (fun v5 _ => ?_)
      refine gm_iload_n d_X11_had_29 rfl 1 rfl ?_
      refine gm_aald (Or.inr rfl) d_X11_had_30 (fun v6 _ => ?_)
      refine gm_getI F_2_v gw_177 d_X11_had_31 (fun v7 _ => ?_)
      refine gm_iload_n d_X11_had_34 rfl 3 rfl ?_
      refine gm_grd (fun g35 => ?_)
      refine gm_callV (k0 := 11) [.int a1, .int v7, .int s3.2.1] (c_X11_isAllSeen a0 a1 v7 s3.2.1 s3.2.2) g35 rfl B_X11_isAllSeen gw_730 gs_22 rfl rfl rfl d_X11_had_35 (gm_kI (fun x9 m8 => ?_))
      refine gm_join (S := Int32) (pj := 47) (kj := 0) (nj := 0) (fun s10 => m8) (fun s10 => [(0, .ref a0), (1, .int a1), (2, .int s10), (3, .int s3.2.1)]) (fun s10 => []) (fun s10 => ?_) (fun j11 hj11 => ?_)
      ·
        refine gm_iinc (v := s3.2.1 + (1 : Int32)) (L' := [(3, .int (s3.2.1 + (1 : Int32))), (0, .ref a0), (1, .int a1), (2, .int s10)]) d_X11_had_47 3 rfl rfl (Nat.le_of_ble_eq_true rfl) rfl ?_
        refine gm_goto (tgt := 14) d_X11_had_50 (by decide) ?_
        refine gm_sub (L' := [(0, .ref a0), (1, .int a1), (2, .int s10), (3, .int (s3.2.1 + (1 : Int32)))]) [1, 2, 3, 0] rfl ?_
        exact gm_back (fun h => h)
      ·
        refine gm_if_eq (tgt := 47) d_X11_had_38 (by decide) (fun h38 => ?_) (fun h38 => ?_)
        ·
          exact hj11 s3.1
        ·
          refine gm_iload_n d_X11_had_41 rfl 2 rfl ?_
          refine gm_iconst (v := 1) d_X11_had_42 (by decide) ?_
          refine gm_iload_n d_X11_had_43 rfl 3 rfl ?_
          refine gm_ishl d_X11_had_44 ?_
          refine gm_ior d_X11_had_45 ?_
          refine gm_istore_n (L' := [(2, .int (s3.1 ||| ((1 : Int32) <<< (s3.2.1 &&& 31)))), (0, .ref a0), (1, .int a1), (3, .int s3.2.1)]) d_X11_had_46 rfl (Nat.le_of_ble_eq_true rfl) rfl ?_
          refine gm_sub (L' := [(0, .ref a0), (1, .int a1), (2, .int (s3.1 ||| ((1 : Int32) <<< (s3.2.1 &&& 31)))), (3, .int s3.2.1)]) [1, 2, 0, 3] rfl ?_
          exact hj11 (s3.1 ||| ((1 : Int32) <<< (s3.2.1 &&& 31)))
  ·
    refine gm_iconst (v := -1) d_X11_had_8 (by decide) ?_
    exact gm_iret rfl d_X11_had_9 (Nat.le_of_ble_eq_true rfl) (Nat.le_of_ble_eq_true rfl) (fun h => h)
theorem d_X11_holdsBehind_0 : decode prog_1_method_43_code 0 = .ok (.aload_n 0, 1) := ge_aload_n_0 (by decide +kernel)
theorem d_X11_holdsBehind_1 : decode prog_1_method_43_code 1 = .ok (.getfield 72, 3) := ge_getfield (by decide +kernel)
theorem d_X11_holdsBehind_4 : decode prog_1_method_43_code 4 = .ok (.aload_n 0, 1) := ge_aload_n_0 (by decide +kernel)
theorem d_X11_holdsBehind_5 : decode prog_1_method_43_code 5 = .ok (.getfield 60, 3) := ge_getfield (by decide +kernel)
theorem d_X11_holdsBehind_8 : decode prog_1_method_43_code 8 = .ok (.getfield 104, 3) := ge_getfield (by decide +kernel)
theorem d_X11_holdsBehind_11 : decode prog_1_method_43_code 11 = .ok (.iload_n 1, 1) := ge_iload_n_1 (by decide +kernel)
theorem d_X11_holdsBehind_12 : decode prog_1_method_43_code 12 = .ok (.aaload, 1) := ge_aaload (by decide +kernel)
theorem d_X11_holdsBehind_13 : decode prog_1_method_43_code 13 = .ok (.invokevirtual 186, 3) := ge_invokevirtual (by decide +kernel)
theorem d_X11_holdsBehind_16 : decode prog_1_method_43_code 16 = .ok (.aload_n 0, 1) := ge_aload_n_0 (by decide +kernel)
theorem d_X11_holdsBehind_17 : decode prog_1_method_43_code 17 = .ok (.iload_n 2, 1) := ge_iload_n_2 (by decide +kernel)
theorem d_X11_holdsBehind_18 : decode prog_1_method_43_code 18 = .ok (.invokevirtual 289, 3) := ge_invokevirtual (by decide +kernel)
theorem d_X11_holdsBehind_21 : decode prog_1_method_43_code 21 = .ok (.ireturn, 1) := ge_ireturn (by decide +kernel)
def f_X11_holdsBehind (a0 : Nat) (a1 : Int32) (a2 : Int32) (μ : gm_M) : Option (Option Value × gm_M) := gm_gR μ [16] a0 5 (fun v1 => gm_gR μ [16] a0 1 (fun v2 => gm_gR μ [13] v2 2 (fun v3 => gm_aR μ 4 v3 a1 (fun v4 => if gm_tag μ v1 = 7 then gm_bV (f_X2_copy v1 v4 μ) (fun m5 => if gm_tag m5 a0 = 16 then gm_bI (f_X11_trialBehind a0 a2 m5) (fun x8 m7 => some (some (.int x8), m7)) else none) else none))))
set_option maxHeartbeats 4000000 in
theorem c_X11_holdsBehind (a0 : Nat) (a1 : Int32) (a2 : Int32) (μ : gm_M) : gm_Call ({ cls := "GumBubble", name := "holdsBehind", desc := "(II)I" } : Jvm.MethodName) prog_1_method_43_code 3 (some .int) 5 0 0 [.ref a0, .int a1, .int a2] μ (f_X11_holdsBehind a0 a1 a2 μ) := by
  refine gm_start PN_11 (Nat.le_of_ble_eq_true rfl) (fun res μe => ?_)
  unfold f_X11_holdsBehind
  show gm_A "GumBubble" (gm_nm "holdsBehind") _ _ _ _ _ _ _ _ _ 0 [(0, .ref a0), (1, .int a1), (2, .int a2)] [] _ _
  refine gm_aload_n d_X11_holdsBehind_0 rfl 0 rfl ?_
  refine gm_getR F_11_trial gw_266 d_X11_holdsBehind_1 (fun v1 _ => ?_)
  refine gm_aload_n d_X11_holdsBehind_4 rfl 0 rfl ?_
  refine gm_getR F_11_now gw_262 d_X11_holdsBehind_5 (fun v2 _ => ?_)
  refine gm_getR F_8_children gw_223 d_X11_holdsBehind_8 (fun v3 _ => ?_)
  refine gm_iload_n d_X11_holdsBehind_11 rfl 1 rfl ?_
  refine gm_aald (Or.inr rfl) d_X11_holdsBehind_12 (fun v4 _ => ?_)
  refine gm_grd (fun g13 => ?_)
  refine gm_callV (k0 := 2) [.ref v4] (c_X2_copy v1 v4 μ) g13 rfl B_X2_copy gw_585 gw_587 rfl rfl rfl d_X11_holdsBehind_13 (gm_kV (fun m5 => ?_))
  refine gm_aload_n d_X11_holdsBehind_16 rfl 0 rfl ?_
  refine gm_iload_n d_X11_holdsBehind_17 rfl 2 rfl ?_
  refine gm_grd (fun g18 => ?_)
  refine gm_callV (k0 := 11) [.int a2] (c_X11_trialBehind a0 a2 m5) g18 rfl B_X11_trialBehind gw_592 gs_16 rfl rfl rfl d_X11_holdsBehind_18 (gm_kI (fun x8 m7 => ?_))
  exact gm_iret rfl d_X11_holdsBehind_21 (Nat.le_of_ble_eq_true rfl) (Nat.le_of_ble_eq_true rfl) (fun h => h)
theorem d_X11_holdsWithGumOf_0 : decode prog_1_method_52_code 0 = .ok (.aload_n 0, 1) := ge_aload_n_0 (by decide +kernel)
theorem d_X11_holdsWithGumOf_1 : decode prog_1_method_52_code 1 = .ok (.getfield 72, 3) := ge_getfield (by decide +kernel)
theorem d_X11_holdsWithGumOf_4 : decode prog_1_method_52_code 4 = .ok (.aload_n 0, 1) := ge_aload_n_0 (by decide +kernel)
theorem d_X11_holdsWithGumOf_5 : decode prog_1_method_52_code 5 = .ok (.getfield 60, 3) := ge_getfield (by decide +kernel)
theorem d_X11_holdsWithGumOf_8 : decode prog_1_method_52_code 8 = .ok (.getfield 104, 3) := ge_getfield (by decide +kernel)
theorem d_X11_holdsWithGumOf_11 : decode prog_1_method_52_code 11 = .ok (.iload_n 1, 1) := ge_iload_n_1 (by decide +kernel)
theorem d_X11_holdsWithGumOf_12 : decode prog_1_method_52_code 12 = .ok (.aaload, 1) := ge_aaload (by decide +kernel)
theorem d_X11_holdsWithGumOf_13 : decode prog_1_method_52_code 13 = .ok (.invokevirtual 186, 3) := ge_invokevirtual (by decide +kernel)
theorem d_X11_holdsWithGumOf_16 : decode prog_1_method_52_code 16 = .ok (.aload_n 0, 1) := ge_aload_n_0 (by decide +kernel)
theorem d_X11_holdsWithGumOf_17 : decode prog_1_method_52_code 17 = .ok (.getfield 72, 3) := ge_getfield (by decide +kernel)
theorem d_X11_holdsWithGumOf_20 : decode prog_1_method_52_code 20 = .ok (.aload_n 0, 1) := ge_aload_n_0 (by decide +kernel)
theorem d_X11_holdsWithGumOf_21 : decode prog_1_method_52_code 21 = .ok (.getfield 60, 3) := ge_getfield (by decide +kernel)
theorem d_X11_holdsWithGumOf_24 : decode prog_1_method_52_code 24 = .ok (.getfield 104, 3) := ge_getfield (by decide +kernel)
theorem d_X11_holdsWithGumOf_27 : decode prog_1_method_52_code 27 = .ok (.iload_n 2, 1) := ge_iload_n_2 (by decide +kernel)
theorem d_X11_holdsWithGumOf_28 : decode prog_1_method_52_code 28 = .ok (.aaload, 1) := ge_aaload (by decide +kernel)
theorem d_X11_holdsWithGumOf_29 : decode prog_1_method_52_code 29 = .ok (.getfield 129, 3) := ge_getfield (by decide +kernel)
theorem d_X11_holdsWithGumOf_32 : decode prog_1_method_52_code 32 = .ok (.putfield 129, 3) := ge_putfield (by decide +kernel)
theorem d_X11_holdsWithGumOf_35 : decode prog_1_method_52_code 35 = .ok (.aload_n 0, 1) := ge_aload_n_0 (by decide +kernel)
theorem d_X11_holdsWithGumOf_36 : decode prog_1_method_52_code 36 = .ok (.getfield 72, 3) := ge_getfield (by decide +kernel)
theorem d_X11_holdsWithGumOf_39 : decode prog_1_method_52_code 39 = .ok (.aload_n 0, 1) := ge_aload_n_0 (by decide +kernel)
theorem d_X11_holdsWithGumOf_40 : decode prog_1_method_52_code 40 = .ok (.getfield 60, 3) := ge_getfield (by decide +kernel)
theorem d_X11_holdsWithGumOf_43 : decode prog_1_method_52_code 43 = .ok (.getfield 104, 3) := ge_getfield (by decide +kernel)
theorem d_X11_holdsWithGumOf_46 : decode prog_1_method_52_code 46 = .ok (.iload_n 2, 1) := ge_iload_n_2 (by decide +kernel)
theorem d_X11_holdsWithGumOf_47 : decode prog_1_method_52_code 47 = .ok (.aaload, 1) := ge_aaload (by decide +kernel)
theorem d_X11_holdsWithGumOf_48 : decode prog_1_method_52_code 48 = .ok (.getfield 132, 3) := ge_getfield (by decide +kernel)
theorem d_X11_holdsWithGumOf_51 : decode prog_1_method_52_code 51 = .ok (.putfield 132, 3) := ge_putfield (by decide +kernel)
theorem d_X11_holdsWithGumOf_54 : decode prog_1_method_52_code 54 = .ok (.aload_n 0, 1) := ge_aload_n_0 (by decide +kernel)
theorem d_X11_holdsWithGumOf_55 : decode prog_1_method_52_code 55 = .ok (.iconst 0, 1) := ge_iconst_0 (by decide +kernel)
theorem d_X11_holdsWithGumOf_56 : decode prog_1_method_52_code 56 = .ok (.invokevirtual 289, 3) := ge_invokevirtual (by decide +kernel)
theorem d_X11_holdsWithGumOf_59 : decode prog_1_method_52_code 59 = .ok (.ireturn, 1) := ge_ireturn (by decide +kernel)
def f_X11_holdsWithGumOf (a0 : Nat) (a1 : Int32) (a2 : Int32) (μ : gm_M) : Option (Option Value × gm_M) := gm_gR μ [16] a0 5 (fun v1 => gm_gR μ [16] a0 1 (fun v2 => gm_gR μ [13] v2 2 (fun v3 => gm_aR μ 4 v3 a1 (fun v4 => if gm_tag μ v1 = 7 then gm_bV (f_X2_copy v1 v4 μ) (fun m5 => gm_gR m5 [16] a0 5 (fun v7 => gm_gR m5 [16] a0 1 (fun v8 => gm_gR m5 [13] v8 2 (fun v9 => gm_aR m5 4 v9 a2 (fun v10 => gm_gI m5 [7] v10 3 (fun v11 => gm_pI m5 [7] v7 3 v11 (fun m12 => gm_gR m12 [16] a0 5 (fun v13 => gm_gR m12 [16] a0 1 (fun v14 => gm_gR m12 [13] v14 2 (fun v15 => gm_aR m12 4 v15 a2 (fun v16 => gm_gI m12 [7] v16 4 (fun v17 => gm_pI m12 [7] v13 4 v17 (fun m18 => if gm_tag m18 a0 = 16 then gm_bI (f_X11_trialBehind a0 (0 : Int32) m18) (fun x20 m19 => some (some (.int x20), m19)) else none))))))))))))) else none))))
set_option maxHeartbeats 4000000 in
theorem c_X11_holdsWithGumOf (a0 : Nat) (a1 : Int32) (a2 : Int32) (μ : gm_M) : gm_Call ({ cls := "GumBubble", name := "holdsWithGumOf", desc := "(II)I" } : Jvm.MethodName) prog_1_method_52_code 3 (some .int) 5 0 0 [.ref a0, .int a1, .int a2] μ (f_X11_holdsWithGumOf a0 a1 a2 μ) := by
  refine gm_start PN_11 (Nat.le_of_ble_eq_true rfl) (fun res μe => ?_)
  unfold f_X11_holdsWithGumOf
  show gm_A "GumBubble" (gm_nm "holdsWithGumOf") _ _ _ _ _ _ _ _ _ 0 [(0, .ref a0), (1, .int a1), (2, .int a2)] [] _ _
  refine gm_aload_n d_X11_holdsWithGumOf_0 rfl 0 rfl ?_
  refine gm_getR F_11_trial gw_266 d_X11_holdsWithGumOf_1 (fun v1 _ => ?_)
  refine gm_aload_n d_X11_holdsWithGumOf_4 rfl 0 rfl ?_
  refine gm_getR F_11_now gw_262 d_X11_holdsWithGumOf_5 (fun v2 _ => ?_)
  refine gm_getR F_8_children gw_223 d_X11_holdsWithGumOf_8 (fun v3 _ => ?_)
  refine gm_iload_n d_X11_holdsWithGumOf_11 rfl 1 rfl ?_
  refine gm_aald (Or.inr rfl) d_X11_holdsWithGumOf_12 (fun v4 _ => ?_)
  refine gm_grd (fun g13 => ?_)
  refine gm_callV (k0 := 2) [.ref v4] (c_X2_copy v1 v4 μ) g13 rfl B_X2_copy gw_585 gw_587 rfl rfl rfl d_X11_holdsWithGumOf_13 (gm_kV (fun m5 => ?_))
  refine gm_aload_n d_X11_holdsWithGumOf_16 rfl 0 rfl ?_
  refine gm_getR F_11_trial gw_266 d_X11_holdsWithGumOf_17 (fun v7 _ => ?_)
  refine gm_aload_n d_X11_holdsWithGumOf_20 rfl 0 rfl ?_
  refine gm_getR F_11_now gw_262 d_X11_holdsWithGumOf_21 (fun v8 _ => ?_)
  refine gm_getR F_8_children gw_223 d_X11_holdsWithGumOf_24 (fun v9 _ => ?_)
  refine gm_iload_n d_X11_holdsWithGumOf_27 rfl 2 rfl ?_
  refine gm_aald (Or.inr rfl) d_X11_holdsWithGumOf_28 (fun v10 _ => ?_)
  refine gm_getI F_2_pieces gw_185 d_X11_holdsWithGumOf_29 (fun v11 _ => ?_)
  refine gm_putI F_2_pieces (Or.inl rfl) gw_185 d_X11_holdsWithGumOf_32 (fun m12 _ => ?_)
  refine gm_aload_n d_X11_holdsWithGumOf_35 rfl 0 rfl ?_
  refine gm_getR F_11_trial gw_266 d_X11_holdsWithGumOf_36 (fun v13 _ => ?_)
  refine gm_aload_n d_X11_holdsWithGumOf_39 rfl 0 rfl ?_
  refine gm_getR F_11_now gw_262 d_X11_holdsWithGumOf_40 (fun v14 _ => ?_)
  refine gm_getR F_8_children gw_223 d_X11_holdsWithGumOf_43 (fun v15 _ => ?_)
  refine gm_iload_n d_X11_holdsWithGumOf_46 rfl 2 rfl ?_
  refine gm_aald (Or.inr rfl) d_X11_holdsWithGumOf_47 (fun v16 _ => ?_)
  refine gm_getI F_2_sugar gw_188 d_X11_holdsWithGumOf_48 (fun v17 _ => ?_)
  refine gm_putI F_2_sugar (Or.inl rfl) gw_188 d_X11_holdsWithGumOf_51 (fun m18 _ => ?_)
  refine gm_aload_n d_X11_holdsWithGumOf_54 rfl 0 rfl ?_
  refine gm_iconst (v := 0) d_X11_holdsWithGumOf_55 (by decide) ?_
  refine gm_grd (fun g56 => ?_)
  refine gm_callV (k0 := 11) [.int (0 : Int32)] (c_X11_trialBehind a0 (0 : Int32) m18) g56 rfl B_X11_trialBehind gw_592 gs_16 rfl rfl rfl d_X11_holdsWithGumOf_56 (gm_kI (fun x20 m19 => ?_))
  exact gm_iret rfl d_X11_holdsWithGumOf_59 (Nat.le_of_ble_eq_true rfl) (Nat.le_of_ble_eq_true rfl) (fun h => h)
theorem d_X7_copy_0 : decode prog_9_method_7_code 0 = .ok (.aload_n 1, 1) := ge_aload_n_1 (by decide +kernel)
theorem d_X7_copy_1 : decode prog_9_method_7_code 1 = .ok (.getfield 19, 3) := ge_getfield (by decide +kernel)
theorem d_X7_copy_4 : decode prog_9_method_7_code 4 = .ok (.iconst 0, 1) := ge_iconst_0 (by decide +kernel)
theorem d_X7_copy_5 : decode prog_9_method_7_code 5 = .ok (.aload_n 0, 1) := ge_aload_n_0 (by decide +kernel)
theorem d_X7_copy_6 : decode prog_9_method_7_code 6 = .ok (.getfield 19, 3) := ge_getfield (by decide +kernel)
theorem d_X7_copy_9 : decode prog_9_method_7_code 9 = .ok (.iconst 0, 1) := ge_iconst_0 (by decide +kernel)
theorem d_X7_copy_10 : decode prog_9_method_7_code 10 = .ok (.aload_n 0, 1) := ge_aload_n_0 (by decide +kernel)
theorem d_X7_copy_11 : decode prog_9_method_7_code 11 = .ok (.getfield 19, 3) := ge_getfield (by decide +kernel)
theorem d_X7_copy_14 : decode prog_9_method_7_code 14 = .ok (.arraylength, 1) := ge_arraylength (by decide +kernel)
theorem d_X7_copy_15 : decode prog_9_method_7_code 15 = .ok (.aload_n 1, 1) := ge_aload_n_1 (by decide +kernel)
theorem d_X7_copy_16 : decode prog_9_method_7_code 16 = .ok (.getfield 19, 3) := ge_getfield (by decide +kernel)
theorem d_X7_copy_19 : decode prog_9_method_7_code 19 = .ok (.arraylength, 1) := ge_arraylength (by decide +kernel)
theorem d_X7_copy_20 : decode prog_9_method_7_code 20 = .ok (.invokestatic 30, 3) := ge_invokestatic (by decide +kernel)
theorem d_X7_copy_23 : decode prog_9_method_7_code 23 = .ok (.invokestatic 33, 3) := ge_invokestatic (by decide +kernel)
theorem d_X7_copy_26 : decode prog_9_method_7_code 26 = .ok (.aload_n 0, 1) := ge_aload_n_0 (by decide +kernel)
theorem d_X7_copy_27 : decode prog_9_method_7_code 27 = .ok (.aload_n 1, 1) := ge_aload_n_1 (by decide +kernel)
theorem d_X7_copy_28 : decode prog_9_method_7_code 28 = .ok (.getfield 23, 3) := ge_getfield (by decide +kernel)
theorem d_X7_copy_31 : decode prog_9_method_7_code 31 = .ok (.putfield 23, 3) := ge_putfield (by decide +kernel)
theorem d_X7_copy_34 : decode prog_9_method_7_code 34 = .ok (.return_, 1) := ge_return_ (by decide +kernel)
def f_X7_copy (a0 : Nat) (a1 : Nat) (μ : gm_M) : Option (Option Value × gm_M) := gm_gR μ [12] a1 1 (fun v1 => gm_gR μ [12] a0 1 (fun v2 => gm_gR μ [12] a0 1 (fun v3 => gm_al μ 1 v3 (fun v4 => gm_gR μ [12] a1 1 (fun v5 => gm_al μ 1 v5 (fun v6 => gm_cp μ v1 (0 : Int32) v2 (0 : Int32) (if v6 < v4 then v6 else v4) (fun m8 => gm_gI m8 [12] a1 2 (fun v9 => gm_pI m8 [12] a0 2 v9 (fun m10 => some (none, m10))))))))))
set_option maxHeartbeats 4000000 in
theorem c_X7_copy (a0 : Nat) (a1 : Nat) (μ : gm_M) : gm_Call ({ cls := "GumBubble$Rows", name := "copy", desc := "(LGumBubble$Rows;)V" } : Jvm.MethodName) prog_9_method_7_code 2 none 1 0 0 [.ref a0, .ref a1] μ (f_X7_copy a0 a1 μ) := by
  refine gm_start PN_7 (Nat.le_of_ble_eq_true rfl) (fun res μe => ?_)
  unfold f_X7_copy
  show gm_A "GumBubble$Rows" (gm_nm "copy") _ _ _ _ _ _ _ _ _ 0 [(0, .ref a0), (1, .ref a1)] [] _ _
  refine gm_aload_n d_X7_copy_0 rfl 1 rfl ?_
  refine gm_getR F_7_cells gw_41 d_X7_copy_1 (fun v1 _ => ?_)
  refine gm_iconst (v := 0) d_X7_copy_4 (by decide) ?_
  refine gm_aload_n d_X7_copy_5 rfl 0 rfl ?_
  refine gm_getR F_7_cells gw_41 d_X7_copy_6 (fun v2 _ => ?_)
  refine gm_iconst (v := 0) d_X7_copy_9 (by decide) ?_
  refine gm_aload_n d_X7_copy_10 rfl 0 rfl ?_
  refine gm_getR F_7_cells gw_41 d_X7_copy_11 (fun v3 _ => ?_)
  refine gm_alen (Or.inl rfl) d_X7_copy_14 (fun v4 _ => ?_)
  refine gm_aload_n d_X7_copy_15 rfl 1 rfl ?_
  refine gm_getR F_7_cells gw_41 d_X7_copy_16 (fun v5 _ => ?_)
  refine gm_alen (Or.inl rfl) d_X7_copy_19 (fun v6 _ => ?_)
  refine gm_min gw_874 gw_310 gw_3 (show _ from gw_311) (Nat.le_of_ble_eq_true rfl) (Nat.le_of_ble_eq_true rfl) (Nat.le_of_ble_eq_true rfl) (Nat.le_of_ble_eq_true rfl) rfl d_X7_copy_20 ?_
  refine gm_copy gw_875 gw_591 gw_590 gw_20 (Nat.le_of_ble_eq_true rfl) (Nat.le_of_ble_eq_true rfl) rfl d_X7_copy_23 (fun m8 _ => ?_)
  refine gm_aload_n d_X7_copy_26 rfl 0 rfl ?_
  refine gm_aload_n d_X7_copy_27 rfl 1 rfl ?_
  refine gm_getI F_7_count gw_42 d_X7_copy_28 (fun v9 _ => ?_)
  refine gm_putI F_7_count (Or.inl rfl) gw_42 d_X7_copy_31 (fun m10 _ => ?_)
  exact gm_vret rfl d_X7_copy_34 (Nat.le_of_ble_eq_true rfl) (Nat.le_of_ble_eq_true rfl) (fun h => h)
theorem d_X8_copy_0 : decode prog_10_method_2_code 0 = .ok (.aload_n 0, 1) := ge_aload_n_0 (by decide +kernel)
theorem d_X8_copy_1 : decode prog_10_method_2_code 1 = .ok (.aload_n 1, 1) := ge_aload_n_1 (by decide +kernel)
theorem d_X8_copy_2 : decode prog_10_method_2_code 2 = .ok (.getfield 46, 3) := ge_getfield (by decide +kernel)
theorem d_X8_copy_5 : decode prog_10_method_2_code 5 = .ok (.putfield 46, 3) := ge_putfield (by decide +kernel)
theorem d_X8_copy_8 : decode prog_10_method_2_code 8 = .ok (.aload_n 0, 1) := ge_aload_n_0 (by decide +kernel)
theorem d_X8_copy_9 : decode prog_10_method_2_code 9 = .ok (.aload_n 1, 1) := ge_aload_n_1 (by decide +kernel)
theorem d_X8_copy_10 : decode prog_10_method_2_code 10 = .ok (.getfield 50, 3) := ge_getfield (by decide +kernel)
theorem d_X8_copy_13 : decode prog_10_method_2_code 13 = .ok (.putfield 50, 3) := ge_putfield (by decide +kernel)
theorem d_X8_copy_16 : decode prog_10_method_2_code 16 = .ok (.iconst 0, 1) := ge_iconst_0 (by decide +kernel)
theorem d_X8_copy_17 : decode prog_10_method_2_code 17 = .ok (.istore_n 2, 1) := ge_istore_n_2 (by decide +kernel)
theorem d_X8_copy_18 : decode prog_10_method_2_code 18 = .ok (.iload_n 2, 1) := ge_iload_n_2 (by decide +kernel)
theorem d_X8_copy_19 : decode prog_10_method_2_code 19 = .ok (.iconst 5, 1) := ge_iconst_5 (by decide +kernel)
theorem d_X8_copy_20 : decode prog_10_method_2_code 20 = .ok (.if_icmp .ge 24, 3) := ge_if_icmp_ge (by decide +kernel)
theorem d_X8_copy_23 : decode prog_10_method_2_code 23 = .ok (.aload_n 0, 1) := ge_aload_n_0 (by decide +kernel)
theorem d_X8_copy_24 : decode prog_10_method_2_code 24 = .ok (.getfield 11, 3) := ge_getfield (by decide +kernel)
theorem d_X8_copy_27 : decode prog_10_method_2_code 27 = .ok (.iload_n 2, 1) := ge_iload_n_2 (by decide +kernel)
theorem d_X8_copy_28 : decode prog_10_method_2_code 28 = .ok (.aaload, 1) := ge_aaload (by decide +kernel)
theorem d_X8_copy_29 : decode prog_10_method_2_code 29 = .ok (.aload_n 1, 1) := ge_aload_n_1 (by decide +kernel)
theorem d_X8_copy_30 : decode prog_10_method_2_code 30 = .ok (.getfield 11, 3) := ge_getfield (by decide +kernel)
theorem d_X8_copy_33 : decode prog_10_method_2_code 33 = .ok (.iload_n 2, 1) := ge_iload_n_2 (by decide +kernel)
theorem d_X8_copy_34 : decode prog_10_method_2_code 34 = .ok (.aaload, 1) := ge_aaload (by decide +kernel)
theorem d_X8_copy_35 : decode prog_10_method_2_code 35 = .ok (.invokevirtual 53, 3) := ge_invokevirtual (by decide +kernel)
theorem d_X8_copy_38 : decode prog_10_method_2_code 38 = .ok (.iinc 2 1, 3) := ge_iinc (by decide +kernel)
theorem d_X8_copy_41 : decode prog_10_method_2_code 41 = .ok (.goto (-23), 3) := ge_goto (by decide +kernel)
theorem d_X8_copy_44 : decode prog_10_method_2_code 44 = .ok (.aload_n 0, 1) := ge_aload_n_0 (by decide +kernel)
theorem d_X8_copy_45 : decode prog_10_method_2_code 45 = .ok (.aload_n 1, 1) := ge_aload_n_1 (by decide +kernel)
theorem d_X8_copy_46 : decode prog_10_method_2_code 46 = .ok (.getfield 57, 3) := ge_getfield (by decide +kernel)
theorem d_X8_copy_49 : decode prog_10_method_2_code 49 = .ok (.putfield 57, 3) := ge_putfield (by decide +kernel)
theorem d_X8_copy_52 : decode prog_10_method_2_code 52 = .ok (.aload_n 0, 1) := ge_aload_n_0 (by decide +kernel)
theorem d_X8_copy_53 : decode prog_10_method_2_code 53 = .ok (.aload_n 1, 1) := ge_aload_n_1 (by decide +kernel)
theorem d_X8_copy_54 : decode prog_10_method_2_code 54 = .ok (.getfield 24, 3) := ge_getfield (by decide +kernel)
theorem d_X8_copy_57 : decode prog_10_method_2_code 57 = .ok (.putfield 24, 3) := ge_putfield (by decide +kernel)
theorem d_X8_copy_60 : decode prog_10_method_2_code 60 = .ok (.aload_n 1, 1) := ge_aload_n_1 (by decide +kernel)
theorem d_X8_copy_61 : decode prog_10_method_2_code 61 = .ok (.getfield 17, 3) := ge_getfield (by decide +kernel)
theorem d_X8_copy_64 : decode prog_10_method_2_code 64 = .ok (.iconst 0, 1) := ge_iconst_0 (by decide +kernel)
theorem d_X8_copy_65 : decode prog_10_method_2_code 65 = .ok (.aload_n 0, 1) := ge_aload_n_0 (by decide +kernel)
theorem d_X8_copy_66 : decode prog_10_method_2_code 66 = .ok (.getfield 17, 3) := ge_getfield (by decide +kernel)
theorem d_X8_copy_69 : decode prog_10_method_2_code 69 = .ok (.iconst 0, 1) := ge_iconst_0 (by decide +kernel)
theorem d_X8_copy_70 : decode prog_10_method_2_code 70 = .ok (.aload_n 0, 1) := ge_aload_n_0 (by decide +kernel)
theorem d_X8_copy_71 : decode prog_10_method_2_code 71 = .ok (.getfield 17, 3) := ge_getfield (by decide +kernel)
theorem d_X8_copy_74 : decode prog_10_method_2_code 74 = .ok (.arraylength, 1) := ge_arraylength (by decide +kernel)
theorem d_X8_copy_75 : decode prog_10_method_2_code 75 = .ok (.invokestatic 60, 3) := ge_invokestatic (by decide +kernel)
theorem d_X8_copy_78 : decode prog_10_method_2_code 78 = .ok (.aload_n 0, 1) := ge_aload_n_0 (by decide +kernel)
theorem d_X8_copy_79 : decode prog_10_method_2_code 79 = .ok (.aload_n 1, 1) := ge_aload_n_1 (by decide +kernel)
theorem d_X8_copy_80 : decode prog_10_method_2_code 80 = .ok (.getfield 66, 3) := ge_getfield (by decide +kernel)
theorem d_X8_copy_83 : decode prog_10_method_2_code 83 = .ok (.putfield 66, 3) := ge_putfield (by decide +kernel)
theorem d_X8_copy_86 : decode prog_10_method_2_code 86 = .ok (.aload_n 0, 1) := ge_aload_n_0 (by decide +kernel)
theorem d_X8_copy_87 : decode prog_10_method_2_code 87 = .ok (.getfield 33, 3) := ge_getfield (by decide +kernel)
theorem d_X8_copy_90 : decode prog_10_method_2_code 90 = .ok (.aload_n 1, 1) := ge_aload_n_1 (by decide +kernel)
theorem d_X8_copy_91 : decode prog_10_method_2_code 91 = .ok (.getfield 33, 3) := ge_getfield (by decide +kernel)
theorem d_X8_copy_94 : decode prog_10_method_2_code 94 = .ok (.invokevirtual 69, 3) := ge_invokevirtual (by decide +kernel)
theorem d_X8_copy_97 : decode prog_10_method_2_code 97 = .ok (.aload_n 0, 1) := ge_aload_n_0 (by decide +kernel)
theorem d_X8_copy_98 : decode prog_10_method_2_code 98 = .ok (.getfield 37, 3) := ge_getfield (by decide +kernel)
theorem d_X8_copy_101 : decode prog_10_method_2_code 101 = .ok (.aload_n 1, 1) := ge_aload_n_1 (by decide +kernel)
theorem d_X8_copy_102 : decode prog_10_method_2_code 102 = .ok (.getfield 37, 3) := ge_getfield (by decide +kernel)
theorem d_X8_copy_105 : decode prog_10_method_2_code 105 = .ok (.invokevirtual 69, 3) := ge_invokevirtual (by decide +kernel)
theorem d_X8_copy_108 : decode prog_10_method_2_code 108 = .ok (.aload_n 0, 1) := ge_aload_n_0 (by decide +kernel)
theorem d_X8_copy_109 : decode prog_10_method_2_code 109 = .ok (.getfield 40, 3) := ge_getfield (by decide +kernel)
theorem d_X8_copy_112 : decode prog_10_method_2_code 112 = .ok (.aload_n 1, 1) := ge_aload_n_1 (by decide +kernel)
theorem d_X8_copy_113 : decode prog_10_method_2_code 113 = .ok (.getfield 40, 3) := ge_getfield (by decide +kernel)
theorem d_X8_copy_116 : decode prog_10_method_2_code 116 = .ok (.invokevirtual 69, 3) := ge_invokevirtual (by decide +kernel)
theorem d_X8_copy_119 : decode prog_10_method_2_code 119 = .ok (.return_, 1) := ge_return_ (by decide +kernel)
def f_X8_copy (a0 : Nat) (a1 : Nat) (μ : gm_M) : Option (Option Value × gm_M) := gm_gI μ [13] a1 0 (fun v1 => gm_pI μ [13] a0 0 v1 (fun m2 => gm_gI m2 [13] a1 1 (fun v3 => gm_pI m2 [13] a0 1 v3 (fun m4 => gm_loop (fun (s5 : Int32 × gm_M) => if (5 : Int32) ≤ s5.1 then gm_gI s5.2 [13] a1 5 (fun v6 => gm_pI s5.2 [13] a0 5 v6 (fun m7 => gm_gR m7 [13] a1 6 (fun v8 => gm_pR m7 [13] a0 6 v8 (fun m9 => gm_gR m9 [13] a1 3 (fun v10 => gm_gR m9 [13] a0 3 (fun v11 => gm_gR m9 [13] a0 3 (fun v12 => gm_al m9 1 v12 (fun v13 => gm_cp m9 v10 (0 : Int32) v11 (0 : Int32) v13 (fun m14 => gm_gI m14 [13] a1 4 (fun v15 => gm_pI m14 [13] a0 4 v15 (fun m16 => gm_gR m16 [13] a0 7 (fun v17 => gm_gR m16 [13] a1 7 (fun v18 => if gm_tag m16 v17 = 12 then gm_bV (f_X7_copy v17 v18 m16) (fun m19 => gm_gR m19 [13] a0 8 (fun v21 => gm_gR m19 [13] a1 8 (fun v22 => if gm_tag m19 v21 = 12 then gm_bV (f_X7_copy v21 v22 m19) (fun m23 => gm_gR m23 [13] a0 9 (fun v25 => gm_gR m23 [13] a1 9 (fun v26 => if gm_tag m23 v25 = 12 then gm_bV (f_X7_copy v25 v26 m23) (fun m27 => some (Sum.inr (none, m27))) else none))) else none))) else none))))))))))))) else gm_gR s5.2 [13] a0 2 (fun v29 => gm_aR s5.2 4 v29 s5.1 (fun v30 => gm_gR s5.2 [13] a1 2 (fun v31 => gm_aR s5.2 4 v31 s5.1 (fun v32 => if gm_tag s5.2 v30 = 7 then gm_bV (f_X2_copy v30 v32 s5.2) (fun m33 => some (Sum.inl ((s5.1 + (1 : Int32)), m33))) else none))))) 5000 ((0 : Int32), m4)))))
set_option maxHeartbeats 4000000 in
theorem c_X8_copy (a0 : Nat) (a1 : Nat) (μ : gm_M) : gm_Call ({ cls := "GumBubble$Scene", name := "copy", desc := "(LGumBubble$Scene;)V" } : Jvm.MethodName) prog_10_method_2_code 3 none 2 0 0 [.ref a0, .ref a1] μ (f_X8_copy a0 a1 μ) := by
  refine gm_start PN_8 (Nat.le_of_ble_eq_true rfl) (fun res μe => ?_)
  unfold f_X8_copy
  show gm_A "GumBubble$Scene" (gm_nm "copy") _ _ _ _ _ _ _ _ _ 0 [(0, .ref a0), (1, .ref a1)] [] _ _
  refine gm_aload_n d_X8_copy_0 rfl 0 rfl ?_
  refine gm_aload_n d_X8_copy_1 rfl 1 rfl ?_
  refine gm_getI F_8_minute gw_218 d_X8_copy_2 (fun v1 _ => ?_)
  refine gm_putI F_8_minute (Or.inl rfl) gw_218 d_X8_copy_5 (fun m2 _ => ?_)
  refine gm_aload_n d_X8_copy_8 rfl 0 rfl ?_
  refine gm_aload_n d_X8_copy_9 rfl 1 rfl ?_
  refine gm_getI F_8_size gw_220 d_X8_copy_10 (fun v3 _ => ?_)
  refine gm_putI F_8_size (Or.inl rfl) gw_220 d_X8_copy_13 (fun m4 _ => ?_)
  refine gm_iconst (v := 0) d_X8_copy_16 (by decide) ?_
  refine gm_istore_n (L' := [(2, .int (0 : Int32)), (0, .ref a0), (1, .ref a1)]) d_X8_copy_17 rfl (Nat.le_of_ble_eq_true rfl) rfl ?_
  refine gm_sub (L' := [(0, .ref a0), (1, .ref a1), (2, .int (0 : Int32))]) [1, 2, 0] rfl ?_
  refine gm_lp (S := Int32 × gm_M) (fun _ => 0) (fun _ => 0) (fun s5 => s5.2) (fun s5 => [(0, .ref a0), (1, .ref a1), (2, .int s5.1)]) (fun _ => []) (fun s5 => ?_) 5000 ((0 : Int32), m4)
  refine gm_iload_n d_X8_copy_18 rfl 2 rfl ?_
  refine gm_iconst (v := 5) d_X8_copy_19 (by decide) ?_
  refine gm_icmp_ge (tgt := 44) d_X8_copy_20 (by decide) (fun h20 => ?_) (fun h20 => ?_)
  ·
    refine gm_aload_n d_X8_copy_44 rfl 0 rfl ?_
    refine gm_aload_n d_X8_copy_45 rfl 1 rfl ?_
    refine gm_getI F_8_afternoons gw_228 d_X8_copy_46 (fun v6 _ => ?_)
    refine gm_putI F_8_afternoons (Or.inl rfl) gw_228 d_X8_copy_49 (fun m7 _ => ?_)
    refine gm_aload_n d_X8_copy_52 rfl 0 rfl ?_
    refine gm_aload_n d_X8_copy_53 rfl 1 rfl ?_
    refine gm_getR F_8_afternoon gw_230 d_X8_copy_54 (fun v8 _ => ?_)
    refine gm_putR F_8_afternoon (Or.inl rfl) gw_230 d_X8_copy_57 (fun m9 _ => ?_)
    refine gm_aload_n d_X8_copy_60 rfl 1 rfl ?_
    refine gm_getR F_8_tape gw_224 d_X8_copy_61 (fun v10 _ => ?_)
    refine gm_iconst (v := 0) d_X8_copy_64 (by decide) ?_
    refine gm_aload_n d_X8_copy_65 rfl 0 rfl ?_
    refine gm_getR F_8_tape gw_224 d_X8_copy_66 (fun v11 _ => ?_)
    refine gm_iconst (v := 0) d_X8_copy_69 (by decide) ?_
    refine gm_aload_n d_X8_copy_70 rfl 0 rfl ?_
    refine gm_getR F_8_tape gw_224 d_X8_copy_71 (fun v12 _ => ?_)
    refine gm_alen (Or.inl rfl) d_X8_copy_74 (fun v13 _ => ?_)
    refine gm_copy gw_869 gw_591 gw_590 gw_20 (Nat.le_of_ble_eq_true rfl) (Nat.le_of_ble_eq_true rfl) rfl d_X8_copy_75 (fun m14 _ => ?_)
    refine gm_aload_n d_X8_copy_78 rfl 0 rfl ?_
    refine gm_aload_n d_X8_copy_79 rfl 1 rfl ?_
    refine gm_getI F_8_tapeSize gw_227 d_X8_copy_80 (fun v15 _ => ?_)
    refine gm_putI F_8_tapeSize (Or.inl rfl) gw_227 d_X8_copy_83 (fun m16 _ => ?_)
    refine gm_aload_n d_X8_copy_86 rfl 0 rfl ?_
    refine gm_getR F_8_seen gw_232 d_X8_copy_87 (fun v17 _ => ?_)
    refine gm_aload_n d_X8_copy_90 rfl 1 rfl ?_
    refine gm_getR F_8_seen gw_232 d_X8_copy_91 (fun v18 _ => ?_)
    refine gm_grd (fun g94 => ?_)
    refine gm_callV (k0 := 7) [.ref v18] (c_X7_copy v17 v18 m16) g94 rfl B_X7_copy gw_870 gw_872 rfl rfl rfl d_X8_copy_94 (gm_kV (fun m19 => ?_))
    refine gm_aload_n d_X8_copy_97 rfl 0 rfl ?_
    refine gm_getR F_8_plan gw_234 d_X8_copy_98 (fun v21 _ => ?_)
    refine gm_aload_n d_X8_copy_101 rfl 1 rfl ?_
    refine gm_getR F_8_plan gw_234 d_X8_copy_102 (fun v22 _ => ?_)
    refine gm_grd (fun g105 => ?_)
    refine gm_callV (k0 := 7) [.ref v22] (c_X7_copy v21 v22 m19) g105 rfl B_X7_copy gw_870 gw_872 rfl rfl rfl d_X8_copy_105 (gm_kV (fun m23 => ?_))
    refine gm_aload_n d_X8_copy_108 rfl 0 rfl ?_
    refine gm_getR F_8_book gw_236 d_X8_copy_109 (fun v25 _ => ?_)
    refine gm_aload_n d_X8_copy_112 rfl 1 rfl ?_
    refine gm_getR F_8_book gw_236 d_X8_copy_113 (fun v26 _ => ?_)
    refine gm_grd (fun g116 => ?_)
    refine gm_callV (k0 := 7) [.ref v26] (c_X7_copy v25 v26 m23) g116 rfl B_X7_copy gw_870 gw_872 rfl rfl rfl d_X8_copy_116 (gm_kV (fun m27 => ?_))
    exact gm_vret rfl d_X8_copy_119 (Nat.le_of_ble_eq_true rfl) (Nat.le_of_ble_eq_true rfl) (fun h => h)
  ·
    refine gm_aload_n d_X8_copy_23 rfl 0 rfl ?_
    refine gm_getR F_8_children gw_222 d_X8_copy_24 (fun v29 _ => ?_)
    refine gm_iload_n d_X8_copy_27 rfl 2 rfl ?_
    refine gm_aald (Or.inr rfl) d_X8_copy_28 (fun v30 _ => ?_)
    refine gm_aload_n d_X8_copy_29 rfl 1 rfl ?_
    refine gm_getR F_8_children gw_222 d_X8_copy_30 (fun v31 _ => ?_)
    refine gm_iload_n d_X8_copy_33 rfl 2 rfl ?_
    refine gm_aald (Or.inr rfl) d_X8_copy_34 (fun v32 _ => ?_)
    refine gm_grd (fun g35 => ?_)
    refine gm_callV (k0 := 2) [.ref v32] (c_X2_copy v30 v32 s5.2) g35 rfl B_X2_copy gw_868 gw_587 rfl rfl rfl d_X8_copy_35 (gm_kV (fun m33 => ?_))
    refine gm_iinc (v := s5.1 + (1 : Int32)) (L' := [(2, .int (s5.1 + (1 : Int32))), (0, .ref a0), (1, .ref a1)]) d_X8_copy_38 2 rfl rfl (Nat.le_of_ble_eq_true rfl) rfl ?_
    refine gm_goto (tgt := 18) d_X8_copy_41 (by decide) ?_
    refine gm_sub (L' := [(0, .ref a0), (1, .ref a1), (2, .int (s5.1 + (1 : Int32)))]) [1, 2, 0] rfl ?_
    exact gm_back (fun h => h)
theorem d_X11_image_0 : decode prog_1_method_36_code 0 = .ok (.aload_n 0, 1) := ge_aload_n_0 (by decide +kernel)
theorem d_X11_image_1 : decode prog_1_method_36_code 1 = .ok (.getfield 64, 3) := ge_getfield (by decide +kernel)
theorem d_X11_image_4 : decode prog_1_method_36_code 4 = .ok (.aload_n 0, 1) := ge_aload_n_0 (by decide +kernel)
theorem d_X11_image_5 : decode prog_1_method_36_code 5 = .ok (.getfield 60, 3) := ge_getfield (by decide +kernel)
theorem d_X11_image_8 : decode prog_1_method_36_code 8 = .ok (.invokevirtual 282, 3) := ge_invokevirtual (by decide +kernel)
theorem d_X11_image_11 : decode prog_1_method_36_code 11 = .ok (.aload_n 0, 1) := ge_aload_n_0 (by decide +kernel)
theorem d_X11_image_12 : decode prog_1_method_36_code 12 = .ok (.iconst 1, 1) := ge_iconst_1 (by decide +kernel)
theorem d_X11_image_13 : decode prog_1_method_36_code 13 = .ok (.putfield 285, 3) := ge_putfield (by decide +kernel)
theorem d_X11_image_16 : decode prog_1_method_36_code 16 = .ok (.aload_n 0, 1) := ge_aload_n_0 (by decide +kernel)
theorem d_X11_image_17 : decode prog_1_method_36_code 17 = .ok (.getfield 60, 3) := ge_getfield (by decide +kernel)
theorem d_X11_image_20 : decode prog_1_method_36_code 20 = .ok (.getfield 101, 3) := ge_getfield (by decide +kernel)
theorem d_X11_image_23 : decode prog_1_method_36_code 23 = .ok (.ireturn, 1) := ge_ireturn (by decide +kernel)
def f_X11_image (a0 : Nat) (μ : gm_M) : Option (Option Value × gm_M) := gm_gR μ [16] a0 2 (fun v1 => gm_gR μ [16] a0 1 (fun v2 => if gm_tag μ v1 = 13 then gm_bV (f_X8_copy v1 v2 μ) (fun m3 => gm_pZ m3 [16] a0 3 (1 : Int32) (fun m5 => gm_gR m5 [16] a0 1 (fun v6 => gm_gI m5 [13] v6 1 (fun v7 => some (some (.int v7), m5))))) else none))
set_option maxHeartbeats 4000000 in
theorem c_X11_image (a0 : Nat) (μ : gm_M) : gm_Call ({ cls := "GumBubble", name := "image", desc := "()I" } : Jvm.MethodName) prog_1_method_36_code 1 (some .int) 3 0 0 [.ref a0] μ (f_X11_image a0 μ) := by
  refine gm_start PN_11 (Nat.le_of_ble_eq_true rfl) (fun res μe => ?_)
  unfold f_X11_image
  show gm_A "GumBubble" (gm_nm "image") _ _ _ _ _ _ _ _ _ 0 [(0, .ref a0)] [] _ _
  refine gm_aload_n d_X11_image_0 rfl 0 rfl ?_
  refine gm_getR F_11_kept gw_263 d_X11_image_1 (fun v1 _ => ?_)
  refine gm_aload_n d_X11_image_4 rfl 0 rfl ?_
  refine gm_getR F_11_now gw_262 d_X11_image_5 (fun v2 _ => ?_)
  refine gm_grd (fun g8 => ?_)
  refine gm_callV (k0 := 8) [.ref v2] (c_X8_copy v1 v2 μ) g8 rfl B_X8_copy gw_864 gw_866 rfl rfl rfl d_X11_image_8 (gm_kV (fun m3 => ?_))
  refine gm_aload_n d_X11_image_11 rfl 0 rfl ?_
  refine gm_iconst (v := 1) d_X11_image_12 (by decide) ?_
  refine gm_putZ F_11_hasImage (Or.inl rfl) gw_264 d_X11_image_13 (fun m5 _ => ?_)
  refine gm_aload_n d_X11_image_16 rfl 0 rfl ?_
  refine gm_getR F_11_now gw_262 d_X11_image_17 (fun v6 _ => ?_)
  refine gm_getI F_8_size gw_221 d_X11_image_20 (fun v7 _ => ?_)
  exact gm_iret rfl d_X11_image_23 (Nat.le_of_ble_eq_true rfl) (Nat.le_of_ble_eq_true rfl) (fun h => h)
theorem d_X9_init_0 : decode prog_11_method_1_code 0 = .ok (.aload_n 0, 1) := ge_aload_n_0 (by decide +kernel)
theorem d_X9_init_1 : decode prog_11_method_1_code 1 = .ok (.iload_n 1, 1) := ge_iload_n_1 (by decide +kernel)
theorem d_X9_init_2 : decode prog_11_method_1_code 2 = .ok (.invokespecial 1, 3) := ge_invokespecial (by decide +kernel)
theorem d_X9_init_5 : decode prog_11_method_1_code 5 = .ok (.return_, 1) := ge_return_ (by decide +kernel)
def f_X9_init (a0 : Nat) (a1 : Int32) (μ : gm_M) : Option (Option Value × gm_M) := if gm_tag μ a0 ≠ 0 then gm_bV (f_X5_init a0 a1 μ) (fun m1 => some (none, m1)) else none
set_option maxHeartbeats 4000000 in
theorem c_X9_init (a0 : Nat) (a1 : Int32) (μ : gm_M) : gm_Call ({ cls := "GumBubble$Slow", name := "<init>", desc := "(I)V" } : Jvm.MethodName) prog_11_method_1_code 2 none 2 0 0 [.ref a0, .int a1] μ (f_X9_init a0 a1 μ) := by
  refine gm_start PN_9 (Nat.le_of_ble_eq_true rfl) (fun res μe => ?_)
  unfold f_X9_init
  show gm_A "GumBubble$Slow" (gm_nm "<init>") _ _ _ _ _ _ _ _ _ 0 [(0, .ref a0), (1, .int a1)] [] _ _
  refine gm_aload_n d_X9_init_0 rfl 0 rfl ?_
  refine gm_iload_n d_X9_init_1 rfl 1 rfl ?_
  refine gm_grd (fun g2 => ?_)
  refine gm_callI [.int a1] (c_X5_init a0 a1 μ) g2 rfl B_X5_init gw_76 rfl rfl rfl d_X9_init_2 (gm_kV (fun m1 => ?_))
  exact gm_vret rfl d_X9_init_5 (Nat.le_of_ble_eq_true rfl) (Nat.le_of_ble_eq_true rfl) (fun h => h)
theorem d_X1_init_0 : decode prog_3_method_1_code 0 = .ok (.aload_n 0, 1) := ge_aload_n_0 (by decide +kernel)
theorem d_X1_init_1 : decode prog_3_method_1_code 1 = .ok (.iload_n 1, 1) := ge_iload_n_1 (by decide +kernel)
theorem d_X1_init_2 : decode prog_3_method_1_code 2 = .ok (.invokespecial 1, 3) := ge_invokespecial (by decide +kernel)
theorem d_X1_init_5 : decode prog_3_method_1_code 5 = .ok (.return_, 1) := ge_return_ (by decide +kernel)
def f_X1_init (a0 : Nat) (a1 : Int32) (μ : gm_M) : Option (Option Value × gm_M) := if gm_tag μ a0 ≠ 0 then gm_bV (f_X9_init a0 a1 μ) (fun m1 => some (none, m1)) else none
set_option maxHeartbeats 4000000 in
theorem c_X1_init (a0 : Nat) (a1 : Int32) (μ : gm_M) : gm_Call ({ cls := "GumBubble$Careful", name := "<init>", desc := "(I)V" } : Jvm.MethodName) prog_3_method_1_code 2 none 3 0 0 [.ref a0, .int a1] μ (f_X1_init a0 a1 μ) := by
  refine gm_start PN_1 (Nat.le_of_ble_eq_true rfl) (fun res μe => ?_)
  unfold f_X1_init
  show gm_A "GumBubble$Careful" (gm_nm "<init>") _ _ _ _ _ _ _ _ _ 0 [(0, .ref a0), (1, .int a1)] [] _ _
  refine gm_aload_n d_X1_init_0 rfl 0 rfl ?_
  refine gm_iload_n d_X1_init_1 rfl 1 rfl ?_
  refine gm_grd (fun g2 => ?_)
  refine gm_callI [.int a1] (c_X9_init a0 a1 μ) g2 rfl B_X9_init gw_100 rfl rfl rfl d_X1_init_2 (gm_kV (fun m1 => ?_))
  exact gm_vret rfl d_X1_init_5 (Nat.le_of_ble_eq_true rfl) (Nat.le_of_ble_eq_true rfl) (fun h => h)
theorem d_X2_init_0 : decode prog_4_method_1_code 0 = .ok (.aload_n 0, 1) := ge_aload_n_0 (by decide +kernel)
theorem d_X2_init_1 : decode prog_4_method_1_code 1 = .ok (.invokespecial 3, 3) := ge_invokespecial (by decide +kernel)
theorem d_X2_init_4 : decode prog_4_method_1_code 4 = .ok (.aload_n 0, 1) := ge_aload_n_0 (by decide +kernel)
theorem d_X2_init_5 : decode prog_4_method_1_code 5 = .ok (.iconst 4, 1) := ge_iconst_4 (by decide +kernel)
theorem d_X2_init_6 : decode prog_4_method_1_code 6 = .ok (.newarray .int, 2) := by decide +kernel
theorem d_X2_init_8 : decode prog_4_method_1_code 8 = .ok (.putfield 9, 3) := ge_putfield (by decide +kernel)
theorem d_X2_init_11 : decode prog_4_method_1_code 11 = .ok (.aload_n 0, 1) := ge_aload_n_0 (by decide +kernel)
theorem d_X2_init_12 : decode prog_4_method_1_code 12 = .ok (.iload_n 1, 1) := ge_iload_n_1 (by decide +kernel)
theorem d_X2_init_13 : decode prog_4_method_1_code 13 = .ok (.putfield 15, 3) := ge_putfield (by decide +kernel)
theorem d_X2_init_16 : decode prog_4_method_1_code 16 = .ok (.aload_n 0, 1) := ge_aload_n_0 (by decide +kernel)
theorem d_X2_init_17 : decode prog_4_method_1_code 17 = .ok (.aload_n 2, 1) := ge_aload_n_2 (by decide +kernel)
theorem d_X2_init_18 : decode prog_4_method_1_code 18 = .ok (.putfield 19, 3) := ge_putfield (by decide +kernel)
theorem d_X2_init_21 : decode prog_4_method_1_code 21 = .ok (.return_, 1) := ge_return_ (by decide +kernel)
def f_X2_init (a0 : Nat) (a1 : Int32) (a2 : Nat) (μ : gm_M) : Option (Option Value × gm_M) := if gm_tag μ a0 ≠ 0 then gm_nA μ 1 (4 : Int32) 4 (fun q2 m3 => gm_pR m3 [7] a0 8 q2 (fun m4 => gm_pI m4 [7] a0 0 a1 (fun m5 => gm_pR m5 [7] a0 1 a2 (fun m6 => some (none, m6))))) else none
set_option maxHeartbeats 4000000 in
theorem c_X2_init (a0 : Nat) (a1 : Int32) (a2 : Nat) (μ : gm_M) : gm_Call ({ cls := "GumBubble$Child", name := "<init>", desc := "(ILGumBubble$Plain;)V" } : Jvm.MethodName) prog_4_method_1_code 3 none 1 1 4 [.ref a0, .int a1, .ref a2] μ (f_X2_init a0 a1 a2 μ) := by
  refine gm_start PN_2 (Nat.le_of_ble_eq_true rfl) (fun res μe => ?_)
  unfold f_X2_init
  show gm_A "GumBubble$Child" (gm_nm "<init>") _ _ _ _ _ _ _ _ _ 0 [(0, .ref a0), (1, .int a1), (2, .ref a2)] [] _ _
  refine gm_aload_n d_X2_init_0 rfl 0 rfl ?_
  refine gm_grd (fun g1 => ?_)
  refine gm_obj g1 gw_165 gw_27 gw_28 (Nat.le_of_ble_eq_true rfl) (Nat.le_of_ble_eq_true rfl) rfl d_X2_init_1 ?_
  refine gm_aload_n d_X2_init_4 rfl 0 rfl ?_
  refine gm_iconst (v := 4) d_X2_init_5 (by decide) ?_
  refine gm_newaI (B := 4) (Nat.le_of_ble_eq_true rfl) gw_51 (Nat.le_of_ble_eq_true rfl) (Nat.le_of_ble_eq_true rfl) d_X2_init_6 (fun q2 m3 _ _ => ?_)
  refine gm_putR F_2_row (Or.inr ⟨rfl, rfl⟩) gw_196 d_X2_init_8 (fun m4 _ => ?_)
  refine gm_aload_n d_X2_init_11 rfl 0 rfl ?_
  refine gm_iload_n d_X2_init_12 rfl 1 rfl ?_
  refine gm_putI F_2_number (Or.inl rfl) gw_166 d_X2_init_13 (fun m5 _ => ?_)
  refine gm_aload_n d_X2_init_16 rfl 0 rfl ?_
  refine gm_aload_n d_X2_init_17 rfl 2 rfl ?_
  refine gm_putR F_2_kind (Or.inl rfl) gw_171 d_X2_init_18 (fun m6 _ => ?_)
  exact gm_vret rfl d_X2_init_21 (Nat.le_of_ble_eq_true rfl) (Nat.le_of_ble_eq_true rfl) (fun h => h)
theorem d_X6_init_0 : decode prog_8_method_1_code 0 = .ok (.aload_n 0, 1) := ge_aload_n_0 (by decide +kernel)
theorem d_X6_init_1 : decode prog_8_method_1_code 1 = .ok (.iload_n 1, 1) := ge_iload_n_1 (by decide +kernel)
theorem d_X6_init_2 : decode prog_8_method_1_code 2 = .ok (.invokespecial 1, 3) := ge_invokespecial (by decide +kernel)
theorem d_X6_init_5 : decode prog_8_method_1_code 5 = .ok (.return_, 1) := ge_return_ (by decide +kernel)
def f_X6_init (a0 : Nat) (a1 : Int32) (μ : gm_M) : Option (Option Value × gm_M) := if gm_tag μ a0 ≠ 0 then gm_bV (f_X5_init a0 a1 μ) (fun m1 => some (none, m1)) else none
set_option maxHeartbeats 4000000 in
theorem c_X6_init (a0 : Nat) (a1 : Int32) (μ : gm_M) : gm_Call ({ cls := "GumBubble$Quick", name := "<init>", desc := "(I)V" } : Jvm.MethodName) prog_8_method_1_code 2 none 2 0 0 [.ref a0, .int a1] μ (f_X6_init a0 a1 μ) := by
  refine gm_start PN_6 (Nat.le_of_ble_eq_true rfl) (fun res μe => ?_)
  unfold f_X6_init
  show gm_A "GumBubble$Quick" (gm_nm "<init>") _ _ _ _ _ _ _ _ _ 0 [(0, .ref a0), (1, .int a1)] [] _ _
  refine gm_aload_n d_X6_init_0 rfl 0 rfl ?_
  refine gm_iload_n d_X6_init_1 rfl 1 rfl ?_
  refine gm_grd (fun g2 => ?_)
  refine gm_callI [.int a1] (c_X5_init a0 a1 μ) g2 rfl B_X5_init gw_68 rfl rfl rfl d_X6_init_2 (gm_kV (fun m1 => ?_))
  exact gm_vret rfl d_X6_init_5 (Nat.le_of_ble_eq_true rfl) (Nat.le_of_ble_eq_true rfl) (fun h => h)
theorem d_X4_init_0 : decode prog_6_method_1_code 0 = .ok (.aload_n 0, 1) := ge_aload_n_0 (by decide +kernel)
theorem d_X4_init_1 : decode prog_6_method_1_code 1 = .ok (.iload_n 1, 1) := ge_iload_n_1 (by decide +kernel)
theorem d_X4_init_2 : decode prog_6_method_1_code 2 = .ok (.invokespecial 1, 3) := ge_invokespecial (by decide +kernel)
theorem d_X4_init_5 : decode prog_6_method_1_code 5 = .ok (.return_, 1) := ge_return_ (by decide +kernel)
def f_X4_init (a0 : Nat) (a1 : Int32) (μ : gm_M) : Option (Option Value × gm_M) := if gm_tag μ a0 ≠ 0 then gm_bV (f_X6_init a0 a1 μ) (fun m1 => some (none, m1)) else none
set_option maxHeartbeats 4000000 in
theorem c_X4_init (a0 : Nat) (a1 : Int32) (μ : gm_M) : gm_Call ({ cls := "GumBubble$Greedy", name := "<init>", desc := "(I)V" } : Jvm.MethodName) prog_6_method_1_code 2 none 3 0 0 [.ref a0, .int a1] μ (f_X4_init a0 a1 μ) := by
  refine gm_start PN_4 (Nat.le_of_ble_eq_true rfl) (fun res μe => ?_)
  unfold f_X4_init
  show gm_A "GumBubble$Greedy" (gm_nm "<init>") _ _ _ _ _ _ _ _ _ 0 [(0, .ref a0), (1, .int a1)] [] _ _
  refine gm_aload_n d_X4_init_0 rfl 0 rfl ?_
  refine gm_iload_n d_X4_init_1 rfl 1 rfl ?_
  refine gm_grd (fun g2 => ?_)
  refine gm_callI [.int a1] (c_X6_init a0 a1 μ) g2 rfl B_X6_init gw_92 rfl rfl rfl d_X4_init_2 (gm_kV (fun m1 => ?_))
  exact gm_vret rfl d_X4_init_5 (Nat.le_of_ble_eq_true rfl) (Nat.le_of_ble_eq_true rfl) (fun h => h)
theorem d_X7_init_0 : decode prog_9_method_1_code 0 = .ok (.aload_n 0, 1) := ge_aload_n_0 (by decide +kernel)
theorem d_X7_init_1 : decode prog_9_method_1_code 1 = .ok (.invokespecial 1, 3) := ge_invokespecial (by decide +kernel)
theorem d_X7_init_4 : decode prog_9_method_1_code 4 = .ok (.aload_n 0, 1) := ge_aload_n_0 (by decide +kernel)
theorem d_X7_init_5 : decode prog_9_method_1_code 5 = .ok (.iload_n 1, 1) := ge_iload_n_1 (by decide +kernel)
theorem d_X7_init_6 : decode prog_9_method_1_code 6 = .ok (.putfield 7, 3) := ge_putfield (by decide +kernel)
theorem d_X7_init_9 : decode prog_9_method_1_code 9 = .ok (.aload_n 0, 1) := ge_aload_n_0 (by decide +kernel)
theorem d_X7_init_10 : decode prog_9_method_1_code 10 = .ok (.iconst 0, 1) := ge_iconst_0 (by decide +kernel)
theorem d_X7_init_11 : decode prog_9_method_1_code 11 = .ok (.iload_n 1, 1) := ge_iload_n_1 (by decide +kernel)
theorem d_X7_init_12 : decode prog_9_method_1_code 12 = .ok (.invokestatic 13, 3) := ge_invokestatic (by decide +kernel)
theorem d_X7_init_15 : decode prog_9_method_1_code 15 = .ok (.iconst 3, 1) := ge_iconst_3 (by decide +kernel)
theorem d_X7_init_16 : decode prog_9_method_1_code 16 = .ok (.imul, 1) := ge_imul (by decide +kernel)
theorem d_X7_init_17 : decode prog_9_method_1_code 17 = .ok (.newarray .int, 2) := by decide +kernel
theorem d_X7_init_19 : decode prog_9_method_1_code 19 = .ok (.putfield 19, 3) := ge_putfield (by decide +kernel)
theorem d_X7_init_22 : decode prog_9_method_1_code 22 = .ok (.return_, 1) := ge_return_ (by decide +kernel)
def f_X7_init (a0 : Nat) (a1 : Int32) (μ : gm_M) : Option (Option Value × gm_M) := if gm_tag μ a0 ≠ 0 then gm_pI μ [12] a0 0 a1 (fun m2 => gm_nA m2 1 ((if (0 : Int32) < a1 then a1 else (0 : Int32)) * (3 : Int32)) 60 (fun q4 m5 => gm_pR m5 [12] a0 1 q4 (fun m6 => some (none, m6)))) else none
set_option maxHeartbeats 4000000 in
theorem c_X7_init (a0 : Nat) (a1 : Int32) (μ : gm_M) : gm_Call ({ cls := "GumBubble$Rows", name := "<init>", desc := "(I)V" } : Jvm.MethodName) prog_9_method_1_code 2 none 1 1 60 [.ref a0, .int a1] μ (f_X7_init a0 a1 μ) := by
  refine gm_start PN_7 (Nat.le_of_ble_eq_true rfl) (fun res μe => ?_)
  unfold f_X7_init
  show gm_A "GumBubble$Rows" (gm_nm "<init>") _ _ _ _ _ _ _ _ _ 0 [(0, .ref a0), (1, .int a1)] [] _ _
  refine gm_aload_n d_X7_init_0 rfl 0 rfl ?_
  refine gm_grd (fun g1 => ?_)
  refine gm_obj g1 gw_36 gw_27 gw_28 (Nat.le_of_ble_eq_true rfl) (Nat.le_of_ble_eq_true rfl) rfl d_X7_init_1 ?_
  refine gm_aload_n d_X7_init_4 rfl 0 rfl ?_
  refine gm_iload_n d_X7_init_5 rfl 1 rfl ?_
  refine gm_putI F_7_limit (Or.inr ⟨rfl, rfl⟩) gw_40 d_X7_init_6 (fun m2 _ => ?_)
  refine gm_aload_n d_X7_init_9 rfl 0 rfl ?_
  refine gm_iconst (v := 0) d_X7_init_10 (by decide) ?_
  refine gm_iload_n d_X7_init_11 rfl 1 rfl ?_
  refine gm_max gw_37 gw_38 gw_3 (show _ from gw_39) (Nat.le_of_ble_eq_true rfl) (Nat.le_of_ble_eq_true rfl) (Nat.le_of_ble_eq_true rfl) (Nat.le_of_ble_eq_true rfl) rfl d_X7_init_12 ?_
  refine gm_iconst (v := 3) d_X7_init_15 (by decide) ?_
  refine gm_imul d_X7_init_16 ?_
  refine gm_newaI (B := 60) (Nat.le_of_ble_eq_true rfl) gw_51 (Nat.le_of_ble_eq_true rfl) (Nat.le_of_ble_eq_true rfl) d_X7_init_17 (fun q4 m5 _ _ => ?_)
  refine gm_putR F_7_cells (Or.inr ⟨rfl, rfl⟩) gw_41 d_X7_init_19 (fun m6 _ => ?_)
  exact gm_vret rfl d_X7_init_22 (Nat.le_of_ble_eq_true rfl) (Nat.le_of_ble_eq_true rfl) (fun h => h)
theorem d_X8_init_0 : decode prog_10_method_1_code 0 = .ok (.aload_n 0, 1) := ge_aload_n_0 (by decide +kernel)
theorem d_X8_init_1 : decode prog_10_method_1_code 1 = .ok (.invokespecial 3, 3) := ge_invokespecial (by decide +kernel)
theorem d_X8_init_4 : decode prog_10_method_1_code 4 = .ok (.aload_n 0, 1) := ge_aload_n_0 (by decide +kernel)
theorem d_X8_init_5 : decode prog_10_method_1_code 5 = .ok (.iconst 5, 1) := ge_iconst_5 (by decide +kernel)
theorem d_X8_init_6 : decode prog_10_method_1_code 6 = .ok (.anewarray 9, 3) := ge_anewarray (by decide +kernel)
theorem d_X8_init_9 : decode prog_10_method_1_code 9 = .ok (.putfield 11, 3) := ge_putfield (by decide +kernel)
theorem d_X8_init_12 : decode prog_10_method_1_code 12 = .ok (.aload_n 0, 1) := ge_aload_n_0 (by decide +kernel)
theorem d_X8_init_13 : decode prog_10_method_1_code 13 = .ok (.bipush 100, 2) := ge_bipush (by decide +kernel)
theorem d_X8_init_15 : decode prog_10_method_1_code 15 = .ok (.newarray .int, 2) := by decide +kernel
theorem d_X8_init_17 : decode prog_10_method_1_code 17 = .ok (.putfield 17, 3) := ge_putfield (by decide +kernel)
theorem d_X8_init_20 : decode prog_10_method_1_code 20 = .ok (.aload_n 0, 1) := ge_aload_n_0 (by decide +kernel)
theorem d_X8_init_21 : decode prog_10_method_1_code 21 = .ok (.new 21, 3) := ge_new (by decide +kernel)
theorem d_X8_init_24 : decode prog_10_method_1_code 24 = .ok (.dup, 1) := ge_dup (by decide +kernel)
theorem d_X8_init_25 : decode prog_10_method_1_code 25 = .ok (.invokespecial 23, 3) := ge_invokespecial (by decide +kernel)
theorem d_X8_init_28 : decode prog_10_method_1_code 28 = .ok (.putfield 24, 3) := ge_putfield (by decide +kernel)
theorem d_X8_init_31 : decode prog_10_method_1_code 31 = .ok (.aload_n 0, 1) := ge_aload_n_0 (by decide +kernel)
theorem d_X8_init_32 : decode prog_10_method_1_code 32 = .ok (.new 28, 3) := ge_new (by decide +kernel)
theorem d_X8_init_35 : decode prog_10_method_1_code 35 = .ok (.dup, 1) := ge_dup (by decide +kernel)
theorem d_X8_init_36 : decode prog_10_method_1_code 36 = .ok (.iconst 5, 1) := ge_iconst_5 (by decide +kernel)
theorem d_X8_init_37 : decode prog_10_method_1_code 37 = .ok (.invokespecial 30, 3) := ge_invokespecial (by decide +kernel)
theorem d_X8_init_40 : decode prog_10_method_1_code 40 = .ok (.putfield 33, 3) := ge_putfield (by decide +kernel)
theorem d_X8_init_43 : decode prog_10_method_1_code 43 = .ok (.aload_n 0, 1) := ge_aload_n_0 (by decide +kernel)
theorem d_X8_init_44 : decode prog_10_method_1_code 44 = .ok (.new 28, 3) := ge_new (by decide +kernel)
theorem d_X8_init_47 : decode prog_10_method_1_code 47 = .ok (.dup, 1) := ge_dup (by decide +kernel)
theorem d_X8_init_48 : decode prog_10_method_1_code 48 = .ok (.bipush 8, 2) := ge_bipush (by decide +kernel)
theorem d_X8_init_50 : decode prog_10_method_1_code 50 = .ok (.invokespecial 30, 3) := ge_invokespecial (by decide +kernel)
theorem d_X8_init_53 : decode prog_10_method_1_code 53 = .ok (.putfield 37, 3) := ge_putfield (by decide +kernel)
theorem d_X8_init_56 : decode prog_10_method_1_code 56 = .ok (.aload_n 0, 1) := ge_aload_n_0 (by decide +kernel)
theorem d_X8_init_57 : decode prog_10_method_1_code 57 = .ok (.new 28, 3) := ge_new (by decide +kernel)
theorem d_X8_init_60 : decode prog_10_method_1_code 60 = .ok (.dup, 1) := ge_dup (by decide +kernel)
theorem d_X8_init_61 : decode prog_10_method_1_code 61 = .ok (.bipush 8, 2) := ge_bipush (by decide +kernel)
theorem d_X8_init_63 : decode prog_10_method_1_code 63 = .ok (.invokespecial 30, 3) := ge_invokespecial (by decide +kernel)
theorem d_X8_init_66 : decode prog_10_method_1_code 66 = .ok (.putfield 40, 3) := ge_putfield (by decide +kernel)
theorem d_X8_init_69 : decode prog_10_method_1_code 69 = .ok (.iconst 0, 1) := ge_iconst_0 (by decide +kernel)
theorem d_X8_init_70 : decode prog_10_method_1_code 70 = .ok (.istore_n 2, 1) := ge_istore_n_2 (by decide +kernel)
theorem d_X8_init_71 : decode prog_10_method_1_code 71 = .ok (.iload_n 2, 1) := ge_iload_n_2 (by decide +kernel)
theorem d_X8_init_72 : decode prog_10_method_1_code 72 = .ok (.iconst 5, 1) := ge_iconst_5 (by decide +kernel)
theorem d_X8_init_73 : decode prog_10_method_1_code 73 = .ok (.if_icmp .ge 24, 3) := ge_if_icmp_ge (by decide +kernel)
theorem d_X8_init_76 : decode prog_10_method_1_code 76 = .ok (.aload_n 0, 1) := ge_aload_n_0 (by decide +kernel)
theorem d_X8_init_77 : decode prog_10_method_1_code 77 = .ok (.getfield 11, 3) := ge_getfield (by decide +kernel)
theorem d_X8_init_80 : decode prog_10_method_1_code 80 = .ok (.iload_n 2, 1) := ge_iload_n_2 (by decide +kernel)
theorem d_X8_init_81 : decode prog_10_method_1_code 81 = .ok (.new 9, 3) := ge_new (by decide +kernel)
theorem d_X8_init_84 : decode prog_10_method_1_code 84 = .ok (.dup, 1) := ge_dup (by decide +kernel)
theorem d_X8_init_85 : decode prog_10_method_1_code 85 = .ok (.iload_n 2, 1) := ge_iload_n_2 (by decide +kernel)
theorem d_X8_init_86 : decode prog_10_method_1_code 86 = .ok (.aload_n 1, 1) := ge_aload_n_1 (by decide +kernel)
theorem d_X8_init_87 : decode prog_10_method_1_code 87 = .ok (.invokespecial 43, 3) := ge_invokespecial (by decide +kernel)
theorem d_X8_init_90 : decode prog_10_method_1_code 90 = .ok (.aastore, 1) := ge_aastore (by decide +kernel)
theorem d_X8_init_91 : decode prog_10_method_1_code 91 = .ok (.iinc 2 1, 3) := ge_iinc (by decide +kernel)
theorem d_X8_init_94 : decode prog_10_method_1_code 94 = .ok (.goto (-23), 3) := ge_goto (by decide +kernel)
theorem d_X8_init_97 : decode prog_10_method_1_code 97 = .ok (.return_, 1) := ge_return_ (by decide +kernel)
def f_X8_init (a0 : Nat) (a1 : Nat) (μ : gm_M) : Option (Option Value × gm_M) := if gm_tag μ a0 ≠ 0 then gm_nA μ 4 (5 : Int32) 5 (fun q2 m3 => gm_pR m3 [13] a0 2 q2 (fun m4 => gm_nA m4 1 (100 : Int32) 100 (fun q5 m6 => gm_pR m6 [13] a0 3 q5 (fun m7 => gm_mk m7 5 10 (fun q8 m9 => if gm_tag m9 q8 ≠ 0 then gm_bV (f_X0_init q8 m9) (fun m10 => gm_pR m10 [13] a0 6 q8 (fun m12 => gm_mk m12 12 3 (fun q13 m14 => if gm_tag m14 q13 ≠ 0 then gm_bV (f_X7_init q13 (5 : Int32) m14) (fun m15 => gm_pR m15 [13] a0 7 q13 (fun m17 => gm_mk m17 12 3 (fun q18 m19 => if gm_tag m19 q18 ≠ 0 then gm_bV (f_X7_init q18 (8 : Int32) m19) (fun m20 => gm_pR m20 [13] a0 8 q18 (fun m22 => gm_mk m22 12 3 (fun q23 m24 => if gm_tag m24 q23 ≠ 0 then gm_bV (f_X7_init q23 (8 : Int32) m24) (fun m25 => gm_pR m25 [13] a0 9 q23 (fun m27 => if (5 : Int32) ≤ (0 : Int32) then some (none, m27) else gm_gR m27 [13] a0 2 (fun v28 => gm_mk m27 7 9 (fun q29 m30 => if gm_tag m30 q29 ≠ 0 then gm_bV (f_X2_init q29 (0 : Int32) a1 m30) (fun m31 => gm_sR m31 4 [7] v28 (0 : Int32) q29 (fun m33 => if (5 : Int32) ≤ ((0 : Int32) + (1 : Int32)) then some (none, m33) else gm_gR m33 [13] a0 2 (fun v34 => gm_mk m33 7 9 (fun q35 m36 => if gm_tag m36 q35 ≠ 0 then gm_bV (f_X2_init q35 ((0 : Int32) + (1 : Int32)) a1 m36) (fun m37 => gm_sR m37 4 [7] v34 ((0 : Int32) + (1 : Int32)) q35 (fun m39 => if (5 : Int32) ≤ (((0 : Int32) + (1 : Int32)) + (1 : Int32)) then some (none, m39) else gm_gR m39 [13] a0 2 (fun v40 => gm_mk m39 7 9 (fun q41 m42 => if gm_tag m42 q41 ≠ 0 then gm_bV (f_X2_init q41 (((0 : Int32) + (1 : Int32)) + (1 : Int32)) a1 m42) (fun m43 => gm_sR m43 4 [7] v40 (((0 : Int32) + (1 : Int32)) + (1 : Int32)) q41 (fun m45 => if (5 : Int32) ≤ ((((0 : Int32) + (1 : Int32)) + (1 : Int32)) + (1 : Int32)) then some (none, m45) else gm_gR m45 [13] a0 2 (fun v46 => gm_mk m45 7 9 (fun q47 m48 => if gm_tag m48 q47 ≠ 0 then gm_bV (f_X2_init q47 ((((0 : Int32) + (1 : Int32)) + (1 : Int32)) + (1 : Int32)) a1 m48) (fun m49 => gm_sR m49 4 [7] v46 ((((0 : Int32) + (1 : Int32)) + (1 : Int32)) + (1 : Int32)) q47 (fun m51 => if (5 : Int32) ≤ (((((0 : Int32) + (1 : Int32)) + (1 : Int32)) + (1 : Int32)) + (1 : Int32)) then some (none, m51) else gm_gR m51 [13] a0 2 (fun v52 => gm_mk m51 7 9 (fun q53 m54 => if gm_tag m54 q53 ≠ 0 then gm_bV (f_X2_init q53 (((((0 : Int32) + (1 : Int32)) + (1 : Int32)) + (1 : Int32)) + (1 : Int32)) a1 m54) (fun m55 => gm_sR m55 4 [7] v52 (((((0 : Int32) + (1 : Int32)) + (1 : Int32)) + (1 : Int32)) + (1 : Int32)) q53 (fun m57 => if (5 : Int32) ≤ ((((((0 : Int32) + (1 : Int32)) + (1 : Int32)) + (1 : Int32)) + (1 : Int32)) + (1 : Int32)) then some (none, m57) else gm_gR m57 [13] a0 2 (fun v58 => gm_mk m57 7 9 (fun q59 m60 => if gm_tag m60 q59 ≠ 0 then gm_bV (f_X2_init q59 ((((((0 : Int32) + (1 : Int32)) + (1 : Int32)) + (1 : Int32)) + (1 : Int32)) + (1 : Int32)) a1 m60) (fun m61 => gm_sR m61 4 [7] v58 ((((((0 : Int32) + (1 : Int32)) + (1 : Int32)) + (1 : Int32)) + (1 : Int32)) + (1 : Int32)) q59 (fun m63 => if (5 : Int32) ≤ (((((((0 : Int32) + (1 : Int32)) + (1 : Int32)) + (1 : Int32)) + (1 : Int32)) + (1 : Int32)) + (1 : Int32)) then some (none, m63) else gm_gR m63 [13] a0 2 (fun v64 => gm_mk m63 7 9 (fun q65 m66 => if gm_tag m66 q65 ≠ 0 then gm_bV (f_X2_init q65 (((((((0 : Int32) + (1 : Int32)) + (1 : Int32)) + (1 : Int32)) + (1 : Int32)) + (1 : Int32)) + (1 : Int32)) a1 m66) (fun m67 => gm_sR m67 4 [7] v64 (((((((0 : Int32) + (1 : Int32)) + (1 : Int32)) + (1 : Int32)) + (1 : Int32)) + (1 : Int32)) + (1 : Int32)) q65 (fun m69 => if (5 : Int32) ≤ ((((((((0 : Int32) + (1 : Int32)) + (1 : Int32)) + (1 : Int32)) + (1 : Int32)) + (1 : Int32)) + (1 : Int32)) + (1 : Int32)) then some (none, m69) else gm_gR m69 [13] a0 2 (fun v70 => gm_mk m69 7 9 (fun q71 m72 => if gm_tag m72 q71 ≠ 0 then gm_bV (f_X2_init q71 ((((((((0 : Int32) + (1 : Int32)) + (1 : Int32)) + (1 : Int32)) + (1 : Int32)) + (1 : Int32)) + (1 : Int32)) + (1 : Int32)) a1 m72) (fun m73 => gm_sR m73 4 [7] v70 ((((((((0 : Int32) + (1 : Int32)) + (1 : Int32)) + (1 : Int32)) + (1 : Int32)) + (1 : Int32)) + (1 : Int32)) + (1 : Int32)) q71 (fun m75 => none)) else none)))) else none)))) else none)))) else none)))) else none)))) else none)))) else none)))) else none)))) else none))) else none))) else none))) else none))))) else none
set_option maxHeartbeats 4000000 in
theorem c_X8_init (a0 : Nat) (a1 : Nat) (μ : gm_M) : gm_Call ({ cls := "GumBubble$Scene", name := "<init>", desc := "(LGumBubble$Plain;)V" } : Jvm.MethodName) prog_10_method_1_code 3 none 2 29 528 [.ref a0, .ref a1] μ (f_X8_init a0 a1 μ) := by
  refine gm_start PN_8 (Nat.le_of_ble_eq_true rfl) (fun res μe => ?_)
  unfold f_X8_init
  show gm_A "GumBubble$Scene" (gm_nm "<init>") _ _ _ _ _ _ _ _ _ 0 [(0, .ref a0), (1, .ref a1)] [] _ _
  refine gm_aload_n d_X8_init_0 rfl 0 rfl ?_
  refine gm_grd (fun g1 => ?_)
  refine gm_obj g1 gw_116 gw_27 gw_28 (Nat.le_of_ble_eq_true rfl) (Nat.le_of_ble_eq_true rfl) rfl d_X8_init_1 ?_
  refine gm_aload_n d_X8_init_4 rfl 0 rfl ?_
  refine gm_iconst (v := 5) d_X8_init_5 (by decide) ?_
  refine gm_anewA (t := 4) (B := 5) (Or.inr ⟨rfl, rfl⟩) (Nat.le_of_ble_eq_true rfl) gw_117 (Nat.le_of_ble_eq_true rfl) (Nat.le_of_ble_eq_true rfl) d_X8_init_6 (fun q2 m3 _ _ => ?_)
  refine gm_putR F_8_children (Or.inr ⟨rfl, rfl⟩) gw_222 d_X8_init_9 (fun m4 _ => ?_)
  refine gm_aload_n d_X8_init_12 rfl 0 rfl ?_
  refine gm_bipush (v := 100) d_X8_init_13 (by decide) ?_
  refine gm_newaI (B := 100) (Nat.le_of_ble_eq_true rfl) gw_51 (Nat.le_of_ble_eq_true rfl) (Nat.le_of_ble_eq_true rfl) d_X8_init_15 (fun q5 m6 _ _ => ?_)
  refine gm_putR F_8_tape (Or.inr ⟨rfl, rfl⟩) gw_224 d_X8_init_17 (fun m7 _ => ?_)
  refine gm_aload_n d_X8_init_20 rfl 0 rfl ?_
  refine gm_new (k0 := 0) (T := gm_T0) (N := 10) rfl gw_119 gw_120 gw_12 (Nat.le_of_ble_eq_true rfl) (Nat.le_of_ble_eq_true rfl) d_X8_init_21 (fun q8 m9 _ _ => ?_)
  refine gm_dup d_X8_init_24 rfl ?_
  refine gm_grd (fun g25 => ?_)
  refine gm_callIN [] (c_X0_init q8 m9) g25 rfl B_X0_init (by first | exact Or.inl rfl | exact Or.inr rfl) rfl rfl rfl d_X8_init_25 (gm_kV (fun m10 => ?_))
  refine gm_putR F_8_afternoon (Or.inl rfl) gw_230 d_X8_init_28 (fun m12 _ => ?_)
  refine gm_aload_n d_X8_init_31 rfl 0 rfl ?_
  refine gm_new (k0 := 7) (T := gm_T7) (N := 3) rfl gw_159 gw_32 gw_2 (Nat.le_of_ble_eq_true rfl) (Nat.le_of_ble_eq_true rfl) d_X8_init_32 (fun q13 m14 _ _ => ?_)
  refine gm_dup d_X8_init_35 rfl ?_
  refine gm_iconst (v := 5) d_X8_init_36 (by decide) ?_
  refine gm_grd (fun g37 => ?_)
  refine gm_callI [.int (5 : Int32)] (c_X7_init q13 (5 : Int32) m14) g37 rfl B_X7_init gw_160 rfl rfl rfl d_X8_init_37 (gm_kV (fun m15 => ?_))
  refine gm_putR F_8_seen (Or.inr ⟨rfl, rfl⟩) gw_232 d_X8_init_40 (fun m17 _ => ?_)
  refine gm_aload_n d_X8_init_43 rfl 0 rfl ?_
  refine gm_new (k0 := 7) (T := gm_T7) (N := 3) rfl gw_159 gw_32 gw_2 (Nat.le_of_ble_eq_true rfl) (Nat.le_of_ble_eq_true rfl) d_X8_init_44 (fun q18 m19 _ _ => ?_)
  refine gm_dup d_X8_init_47 rfl ?_
  refine gm_bipush (v := 8) d_X8_init_48 (by decide) ?_
  refine gm_grd (fun g50 => ?_)
  refine gm_callI [.int (8 : Int32)] (c_X7_init q18 (8 : Int32) m19) g50 rfl B_X7_init gw_160 rfl rfl rfl d_X8_init_50 (gm_kV (fun m20 => ?_))
  refine gm_putR F_8_plan (Or.inr ⟨rfl, rfl⟩) gw_234 d_X8_init_53 (fun m22 _ => ?_)
  refine gm_aload_n d_X8_init_56 rfl 0 rfl ?_
  refine gm_new (k0 := 7) (T := gm_T7) (N := 3) rfl gw_159 gw_32 gw_2 (Nat.le_of_ble_eq_true rfl) (Nat.le_of_ble_eq_true rfl) d_X8_init_57 (fun q23 m24 _ _ => ?_)
  refine gm_dup d_X8_init_60 rfl ?_
  refine gm_bipush (v := 8) d_X8_init_61 (by decide) ?_
  refine gm_grd (fun g63 => ?_)
  refine gm_callI [.int (8 : Int32)] (c_X7_init q23 (8 : Int32) m24) g63 rfl B_X7_init gw_160 rfl rfl rfl d_X8_init_63 (gm_kV (fun m25 => ?_))
  refine gm_putR F_8_book (Or.inr ⟨rfl, rfl⟩) gw_236 d_X8_init_66 (fun m27 _ => ?_)
  refine gm_iconst (v := 0) d_X8_init_69 (by decide) ?_
  refine gm_istore_n (L' := [(2, .int (0 : Int32)), (0, .ref a0), (1, .ref a1)]) d_X8_init_70 rfl (Nat.le_of_ble_eq_true rfl) rfl ?_
  refine gm_iload_n d_X8_init_71 rfl 0 rfl ?_
  refine gm_iconst (v := 5) d_X8_init_72 (by decide) ?_
  refine gm_icmp_ge (tgt := 97) d_X8_init_73 (by decide) (fun h73 => ?_) (fun h73 => ?_)
  ·
    exact gm_vret rfl d_X8_init_97 (Nat.le_of_ble_eq_true rfl) (Nat.le_of_ble_eq_true rfl) (fun h => h)
  ·
    refine gm_aload_n d_X8_init_76 rfl 1 rfl ?_
    refine gm_getR F_8_children gw_222 d_X8_init_77 (fun v28 _ => ?_)
    refine gm_iload_n d_X8_init_80 rfl 0 rfl ?_
    refine gm_new (k0 := 2) (T := gm_T2) (N := 9) rfl gw_117 gw_161 gw_13 (Nat.le_of_ble_eq_true rfl) (Nat.le_of_ble_eq_true rfl) d_X8_init_81 (fun q29 m30 _ _ => ?_)
    refine gm_dup d_X8_init_84 rfl ?_
    refine gm_iload_n d_X8_init_85 rfl 0 rfl ?_
    refine gm_aload_n d_X8_init_86 rfl 2 rfl ?_
    refine gm_grd (fun g87 => ?_)
    refine gm_callI [.int (0 : Int32), .ref a1] (c_X2_init q29 (0 : Int32) a1 m30) g87 rfl B_X2_init gw_162 rfl rfl rfl d_X8_init_87 (gm_kV (fun m31 => ?_))
    refine gm_aast (Or.inr ⟨rfl, rfl⟩) Sub_4 d_X8_init_90 (fun m33 _ => ?_)
    refine gm_iinc (v := (0 : Int32) + (1 : Int32)) (L' := [(2, .int ((0 : Int32) + (1 : Int32))), (0, .ref a0), (1, .ref a1)]) d_X8_init_91 0 rfl rfl (Nat.le_of_ble_eq_true rfl) rfl ?_
    refine gm_goto (tgt := 71) d_X8_init_94 (by decide) ?_
    refine gm_iload_n d_X8_init_71 rfl 0 rfl ?_
    refine gm_iconst (v := 5) d_X8_init_72 (by decide) ?_
    refine gm_icmp_ge (tgt := 97) d_X8_init_73 (by decide) (fun h73 => ?_) (fun h73 => ?_)
    ·
      exact gm_vret rfl d_X8_init_97 (Nat.le_of_ble_eq_true rfl) (Nat.le_of_ble_eq_true rfl) (fun h => h)
    ·
      refine gm_aload_n d_X8_init_76 rfl 1 rfl ?_
      refine gm_getR F_8_children gw_222 d_X8_init_77 (fun v34 _ => ?_)
      refine gm_iload_n d_X8_init_80 rfl 0 rfl ?_
      refine gm_new (k0 := 2) (T := gm_T2) (N := 9) rfl gw_117 gw_161 gw_13 (Nat.le_of_ble_eq_true rfl) (Nat.le_of_ble_eq_true rfl) d_X8_init_81 (fun q35 m36 _ _ => ?_)
      refine gm_dup d_X8_init_84 rfl ?_
      refine gm_iload_n d_X8_init_85 rfl 0 rfl ?_
      refine gm_aload_n d_X8_init_86 rfl 2 rfl ?_
      refine gm_grd (fun g87 => ?_)
      refine gm_callI [.int ((0 : Int32) + (1 : Int32)), .ref a1] (c_X2_init q35 ((0 : Int32) + (1 : Int32)) a1 m36) g87 rfl B_X2_init gw_162 rfl rfl rfl d_X8_init_87 (gm_kV (fun m37 => ?_))
      refine gm_aast (Or.inr ⟨rfl, rfl⟩) Sub_4 d_X8_init_90 (fun m39 _ => ?_)
      refine gm_iinc (v := ((0 : Int32) + (1 : Int32)) + (1 : Int32)) (L' := [(2, .int (((0 : Int32) + (1 : Int32)) + (1 : Int32))), (0, .ref a0), (1, .ref a1)]) d_X8_init_91 0 rfl rfl (Nat.le_of_ble_eq_true rfl) rfl ?_
      refine gm_goto (tgt := 71) d_X8_init_94 (by decide) ?_
      refine gm_iload_n d_X8_init_71 rfl 0 rfl ?_
      refine gm_iconst (v := 5) d_X8_init_72 (by decide) ?_
      refine gm_icmp_ge (tgt := 97) d_X8_init_73 (by decide) (fun h73 => ?_) (fun h73 => ?_)
      ·
        exact gm_vret rfl d_X8_init_97 (Nat.le_of_ble_eq_true rfl) (Nat.le_of_ble_eq_true rfl) (fun h => h)
      ·
        refine gm_aload_n d_X8_init_76 rfl 1 rfl ?_
        refine gm_getR F_8_children gw_222 d_X8_init_77 (fun v40 _ => ?_)
        refine gm_iload_n d_X8_init_80 rfl 0 rfl ?_
        refine gm_new (k0 := 2) (T := gm_T2) (N := 9) rfl gw_117 gw_161 gw_13 (Nat.le_of_ble_eq_true rfl) (Nat.le_of_ble_eq_true rfl) d_X8_init_81 (fun q41 m42 _ _ => ?_)
        refine gm_dup d_X8_init_84 rfl ?_
        refine gm_iload_n d_X8_init_85 rfl 0 rfl ?_
        refine gm_aload_n d_X8_init_86 rfl 2 rfl ?_
        refine gm_grd (fun g87 => ?_)
        refine gm_callI [.int (((0 : Int32) + (1 : Int32)) + (1 : Int32)), .ref a1] (c_X2_init q41 (((0 : Int32) + (1 : Int32)) + (1 : Int32)) a1 m42) g87 rfl B_X2_init gw_162 rfl rfl rfl d_X8_init_87 (gm_kV (fun m43 => ?_))
        refine gm_aast (Or.inr ⟨rfl, rfl⟩) Sub_4 d_X8_init_90 (fun m45 _ => ?_)
        refine gm_iinc (v := (((0 : Int32) + (1 : Int32)) + (1 : Int32)) + (1 : Int32)) (L' := [(2, .int ((((0 : Int32) + (1 : Int32)) + (1 : Int32)) + (1 : Int32))), (0, .ref a0), (1, .ref a1)]) d_X8_init_91 0 rfl rfl (Nat.le_of_ble_eq_true rfl) rfl ?_
        refine gm_goto (tgt := 71) d_X8_init_94 (by decide) ?_
        refine gm_iload_n d_X8_init_71 rfl 0 rfl ?_
        refine gm_iconst (v := 5) d_X8_init_72 (by decide) ?_
        refine gm_icmp_ge (tgt := 97) d_X8_init_73 (by decide) (fun h73 => ?_) (fun h73 => ?_)
        ·
          exact gm_vret rfl d_X8_init_97 (Nat.le_of_ble_eq_true rfl) (Nat.le_of_ble_eq_true rfl) (fun h => h)
        ·
          refine gm_aload_n d_X8_init_76 rfl 1 rfl ?_
          refine gm_getR F_8_children gw_222 d_X8_init_77 (fun v46 _ => ?_)
          refine gm_iload_n d_X8_init_80 rfl 0 rfl ?_
          refine gm_new (k0 := 2) (T := gm_T2) (N := 9) rfl gw_117 gw_161 gw_13 (Nat.le_of_ble_eq_true rfl) (Nat.le_of_ble_eq_true rfl) d_X8_init_81 (fun q47 m48 _ _ => ?_)
          refine gm_dup d_X8_init_84 rfl ?_
          refine gm_iload_n d_X8_init_85 rfl 0 rfl ?_
          refine gm_aload_n d_X8_init_86 rfl 2 rfl ?_
          refine gm_grd (fun g87 => ?_)
          refine gm_callI [.int ((((0 : Int32) + (1 : Int32)) + (1 : Int32)) + (1 : Int32)), .ref a1] (c_X2_init q47 ((((0 : Int32) + (1 : Int32)) + (1 : Int32)) + (1 : Int32)) a1 m48) g87 rfl B_X2_init gw_162 rfl rfl rfl d_X8_init_87 (gm_kV (fun m49 => ?_))
          refine gm_aast (Or.inr ⟨rfl, rfl⟩) Sub_4 d_X8_init_90 (fun m51 _ => ?_)
          refine gm_iinc (v := ((((0 : Int32) + (1 : Int32)) + (1 : Int32)) + (1 : Int32)) + (1 : Int32)) (L' := [(2, .int (((((0 : Int32) + (1 : Int32)) + (1 : Int32)) + (1 : Int32)) + (1 : Int32))), (0, .ref a0), (1, .ref a1)]) d_X8_init_91 0 rfl rfl (Nat.le_of_ble_eq_true rfl) rfl ?_
          refine gm_goto (tgt := 71) d_X8_init_94 (by decide) ?_
          refine gm_iload_n d_X8_init_71 rfl 0 rfl ?_
          refine gm_iconst (v := 5) d_X8_init_72 (by decide) ?_
          refine gm_icmp_ge (tgt := 97) d_X8_init_73 (by decide) (fun h73 => ?_) (fun h73 => ?_)
          ·
            exact gm_vret rfl d_X8_init_97 (Nat.le_of_ble_eq_true rfl) (Nat.le_of_ble_eq_true rfl) (fun h => h)
          ·
            refine gm_aload_n d_X8_init_76 rfl 1 rfl ?_
            refine gm_getR F_8_children gw_222 d_X8_init_77 (fun v52 _ => ?_)
            refine gm_iload_n d_X8_init_80 rfl 0 rfl ?_
            refine gm_new (k0 := 2) (T := gm_T2) (N := 9) rfl gw_117 gw_161 gw_13 (Nat.le_of_ble_eq_true rfl) (Nat.le_of_ble_eq_true rfl) d_X8_init_81 (fun q53 m54 _ _ => ?_)
            refine gm_dup d_X8_init_84 rfl ?_
            refine gm_iload_n d_X8_init_85 rfl 0 rfl ?_
            refine gm_aload_n d_X8_init_86 rfl 2 rfl ?_
            refine gm_grd (fun g87 => ?_)
            refine gm_callI [.int (((((0 : Int32) + (1 : Int32)) + (1 : Int32)) + (1 : Int32)) + (1 : Int32)), .ref a1] (c_X2_init q53 (((((0 : Int32) + (1 : Int32)) + (1 : Int32)) + (1 : Int32)) + (1 : Int32)) a1 m54) g87 rfl B_X2_init gw_162 rfl rfl rfl d_X8_init_87 (gm_kV (fun m55 => ?_))
            refine gm_aast (Or.inr ⟨rfl, rfl⟩) Sub_4 d_X8_init_90 (fun m57 _ => ?_)
            refine gm_iinc (v := (((((0 : Int32) + (1 : Int32)) + (1 : Int32)) + (1 : Int32)) + (1 : Int32)) + (1 : Int32)) (L' := [(2, .int ((((((0 : Int32) + (1 : Int32)) + (1 : Int32)) + (1 : Int32)) + (1 : Int32)) + (1 : Int32))), (0, .ref a0), (1, .ref a1)]) d_X8_init_91 0 rfl rfl (Nat.le_of_ble_eq_true rfl) rfl ?_
            refine gm_goto (tgt := 71) d_X8_init_94 (by decide) ?_
            refine gm_iload_n d_X8_init_71 rfl 0 rfl ?_
            refine gm_iconst (v := 5) d_X8_init_72 (by decide) ?_
            refine gm_icmp_ge (tgt := 97) d_X8_init_73 (by decide) (fun h73 => ?_) (fun h73 => ?_)
            ·
              exact gm_vret rfl d_X8_init_97 (Nat.le_of_ble_eq_true rfl) (Nat.le_of_ble_eq_true rfl) (fun h => h)
            ·
              refine gm_aload_n d_X8_init_76 rfl 1 rfl ?_
              refine gm_getR F_8_children gw_222 d_X8_init_77 (fun v58 _ => ?_)
              refine gm_iload_n d_X8_init_80 rfl 0 rfl ?_
              refine gm_new (k0 := 2) (T := gm_T2) (N := 9) rfl gw_117 gw_161 gw_13 (Nat.le_of_ble_eq_true rfl) (Nat.le_of_ble_eq_true rfl) d_X8_init_81 (fun q59 m60 _ _ => ?_)
              refine gm_dup d_X8_init_84 rfl ?_
              refine gm_iload_n d_X8_init_85 rfl 0 rfl ?_
              refine gm_aload_n d_X8_init_86 rfl 2 rfl ?_
              refine gm_grd (fun g87 => ?_)
              refine gm_callI [.int ((((((0 : Int32) + (1 : Int32)) + (1 : Int32)) + (1 : Int32)) + (1 : Int32)) + (1 : Int32)), .ref a1] (c_X2_init q59 ((((((0 : Int32) + (1 : Int32)) + (1 : Int32)) + (1 : Int32)) + (1 : Int32)) + (1 : Int32)) a1 m60) g87 rfl B_X2_init gw_162 rfl rfl rfl d_X8_init_87 (gm_kV (fun m61 => ?_))
              refine gm_aast (Or.inr ⟨rfl, rfl⟩) Sub_4 d_X8_init_90 (fun m63 _ => ?_)
              refine gm_iinc (v := ((((((0 : Int32) + (1 : Int32)) + (1 : Int32)) + (1 : Int32)) + (1 : Int32)) + (1 : Int32)) + (1 : Int32)) (L' := [(2, .int (((((((0 : Int32) + (1 : Int32)) + (1 : Int32)) + (1 : Int32)) + (1 : Int32)) + (1 : Int32)) + (1 : Int32))), (0, .ref a0), (1, .ref a1)]) d_X8_init_91 0 rfl rfl (Nat.le_of_ble_eq_true rfl) rfl ?_
              refine gm_goto (tgt := 71) d_X8_init_94 (by decide) ?_
              refine gm_iload_n d_X8_init_71 rfl 0 rfl ?_
              refine gm_iconst (v := 5) d_X8_init_72 (by decide) ?_
              refine gm_icmp_ge (tgt := 97) d_X8_init_73 (by decide) (fun h73 => ?_) (fun h73 => ?_)
              ·
                exact gm_vret rfl d_X8_init_97 (Nat.le_of_ble_eq_true rfl) (Nat.le_of_ble_eq_true rfl) (fun h => h)
              ·
                refine gm_aload_n d_X8_init_76 rfl 1 rfl ?_
                refine gm_getR F_8_children gw_222 d_X8_init_77 (fun v64 _ => ?_)
                refine gm_iload_n d_X8_init_80 rfl 0 rfl ?_
                refine gm_new (k0 := 2) (T := gm_T2) (N := 9) rfl gw_117 gw_161 gw_13 (Nat.le_of_ble_eq_true rfl) (Nat.le_of_ble_eq_true rfl) d_X8_init_81 (fun q65 m66 _ _ => ?_)
                refine gm_dup d_X8_init_84 rfl ?_
                refine gm_iload_n d_X8_init_85 rfl 0 rfl ?_
                refine gm_aload_n d_X8_init_86 rfl 2 rfl ?_
                refine gm_grd (fun g87 => ?_)
                refine gm_callI [.int (((((((0 : Int32) + (1 : Int32)) + (1 : Int32)) + (1 : Int32)) + (1 : Int32)) + (1 : Int32)) + (1 : Int32)), .ref a1] (c_X2_init q65 (((((((0 : Int32) + (1 : Int32)) + (1 : Int32)) + (1 : Int32)) + (1 : Int32)) + (1 : Int32)) + (1 : Int32)) a1 m66) g87 rfl B_X2_init gw_162 rfl rfl rfl d_X8_init_87 (gm_kV (fun m67 => ?_))
                refine gm_aast (Or.inr ⟨rfl, rfl⟩) Sub_4 d_X8_init_90 (fun m69 _ => ?_)
                refine gm_iinc (v := (((((((0 : Int32) + (1 : Int32)) + (1 : Int32)) + (1 : Int32)) + (1 : Int32)) + (1 : Int32)) + (1 : Int32)) + (1 : Int32)) (L' := [(2, .int ((((((((0 : Int32) + (1 : Int32)) + (1 : Int32)) + (1 : Int32)) + (1 : Int32)) + (1 : Int32)) + (1 : Int32)) + (1 : Int32))), (0, .ref a0), (1, .ref a1)]) d_X8_init_91 0 rfl rfl (Nat.le_of_ble_eq_true rfl) rfl ?_
                refine gm_goto (tgt := 71) d_X8_init_94 (by decide) ?_
                refine gm_iload_n d_X8_init_71 rfl 0 rfl ?_
                refine gm_iconst (v := 5) d_X8_init_72 (by decide) ?_
                refine gm_icmp_ge (tgt := 97) d_X8_init_73 (by decide) (fun h73 => ?_) (fun h73 => ?_)
                ·
                  exact gm_vret rfl d_X8_init_97 (Nat.le_of_ble_eq_true rfl) (Nat.le_of_ble_eq_true rfl) (fun h => h)
                ·
                  refine gm_aload_n d_X8_init_76 rfl 1 rfl ?_
                  refine gm_getR F_8_children gw_222 d_X8_init_77 (fun v70 _ => ?_)
                  refine gm_iload_n d_X8_init_80 rfl 0 rfl ?_
                  refine gm_new (k0 := 2) (T := gm_T2) (N := 9) rfl gw_117 gw_161 gw_13 (Nat.le_of_ble_eq_true rfl) (Nat.le_of_ble_eq_true rfl) d_X8_init_81 (fun q71 m72 _ _ => ?_)
                  refine gm_dup d_X8_init_84 rfl ?_
                  refine gm_iload_n d_X8_init_85 rfl 0 rfl ?_
                  refine gm_aload_n d_X8_init_86 rfl 2 rfl ?_
                  refine gm_grd (fun g87 => ?_)
                  refine gm_callI [.int ((((((((0 : Int32) + (1 : Int32)) + (1 : Int32)) + (1 : Int32)) + (1 : Int32)) + (1 : Int32)) + (1 : Int32)) + (1 : Int32)), .ref a1] (c_X2_init q71 ((((((((0 : Int32) + (1 : Int32)) + (1 : Int32)) + (1 : Int32)) + (1 : Int32)) + (1 : Int32)) + (1 : Int32)) + (1 : Int32)) a1 m72) g87 rfl B_X2_init gw_162 rfl rfl rfl d_X8_init_87 (gm_kV (fun m73 => ?_))
                  refine gm_aast (Or.inr ⟨rfl, rfl⟩) Sub_4 d_X8_init_90 (fun m75 _ => ?_)
                  refine gm_iinc (v := ((((((((0 : Int32) + (1 : Int32)) + (1 : Int32)) + (1 : Int32)) + (1 : Int32)) + (1 : Int32)) + (1 : Int32)) + (1 : Int32)) + (1 : Int32)) (L' := [(2, .int (((((((((0 : Int32) + (1 : Int32)) + (1 : Int32)) + (1 : Int32)) + (1 : Int32)) + (1 : Int32)) + (1 : Int32)) + (1 : Int32)) + (1 : Int32))), (0, .ref a0), (1, .ref a1)]) d_X8_init_91 0 rfl rfl (Nat.le_of_ble_eq_true rfl) rfl ?_
                  refine gm_goto (tgt := 71) d_X8_init_94 (by decide) ?_
                  exact gm_no
theorem d_X11_init_0 : decode prog_1_method_1_code 0 = .ok (.aload_n 0, 1) := ge_aload_n_0 (by decide +kernel)
theorem d_X11_init_1 : decode prog_1_method_1_code 1 = .ok (.invokespecial 3, 3) := ge_invokespecial (by decide +kernel)
theorem d_X11_init_4 : decode prog_1_method_1_code 4 = .ok (.aload_n 0, 1) := ge_aload_n_0 (by decide +kernel)
theorem d_X11_init_5 : decode prog_1_method_1_code 5 = .ok (.bipush 7, 2) := ge_bipush (by decide +kernel)
theorem d_X11_init_7 : decode prog_1_method_1_code 7 = .ok (.anewarray 11, 3) := ge_anewarray (by decide +kernel)
theorem d_X11_init_10 : decode prog_1_method_1_code 10 = .ok (.putfield 13, 3) := ge_putfield (by decide +kernel)
theorem d_X11_init_13 : decode prog_1_method_1_code 13 = .ok (.aload_n 0, 1) := ge_aload_n_0 (by decide +kernel)
theorem d_X11_init_14 : decode prog_1_method_1_code 14 = .ok (.new 17, 3) := ge_new (by decide +kernel)
theorem d_X11_init_17 : decode prog_1_method_1_code 17 = .ok (.dup, 1) := ge_dup (by decide +kernel)
theorem d_X11_init_18 : decode prog_1_method_1_code 18 = .ok (.bipush 20, 2) := ge_bipush (by decide +kernel)
theorem d_X11_init_20 : decode prog_1_method_1_code 20 = .ok (.invokespecial 19, 3) := ge_invokespecial (by decide +kernel)
theorem d_X11_init_23 : decode prog_1_method_1_code 23 = .ok (.putfield 22, 3) := ge_putfield (by decide +kernel)
theorem d_X11_init_26 : decode prog_1_method_1_code 26 = .ok (.aload_n 0, 1) := ge_aload_n_0 (by decide +kernel)
theorem d_X11_init_27 : decode prog_1_method_1_code 27 = .ok (.bipush 25, 2) := ge_bipush (by decide +kernel)
theorem d_X11_init_29 : decode prog_1_method_1_code 29 = .ok (.newarray .int, 2) := by decide +kernel
theorem d_X11_init_31 : decode prog_1_method_1_code 31 = .ok (.putfield 26, 3) := ge_putfield (by decide +kernel)
theorem d_X11_init_34 : decode prog_1_method_1_code 34 = .ok (.aload_n 0, 1) := ge_aload_n_0 (by decide +kernel)
theorem d_X11_init_35 : decode prog_1_method_1_code 35 = .ok (.iconst 5, 1) := ge_iconst_5 (by decide +kernel)
theorem d_X11_init_36 : decode prog_1_method_1_code 36 = .ok (.newarray .int, 2) := by decide +kernel
theorem d_X11_init_38 : decode prog_1_method_1_code 38 = .ok (.putfield 30, 3) := ge_putfield (by decide +kernel)
theorem d_X11_init_41 : decode prog_1_method_1_code 41 = .ok (.aload_n 0, 1) := ge_aload_n_0 (by decide +kernel)
theorem d_X11_init_42 : decode prog_1_method_1_code 42 = .ok (.iconst 5, 1) := ge_iconst_5 (by decide +kernel)
theorem d_X11_init_43 : decode prog_1_method_1_code 43 = .ok (.newarray .int, 2) := by decide +kernel
theorem d_X11_init_45 : decode prog_1_method_1_code 45 = .ok (.putfield 33, 3) := ge_putfield (by decide +kernel)
theorem d_X11_init_48 : decode prog_1_method_1_code 48 = .ok (.new 11, 3) := ge_new (by decide +kernel)
theorem d_X11_init_51 : decode prog_1_method_1_code 51 = .ok (.dup, 1) := ge_dup (by decide +kernel)
theorem d_X11_init_52 : decode prog_1_method_1_code 52 = .ok (.iconst 0, 1) := ge_iconst_0 (by decide +kernel)
theorem d_X11_init_53 : decode prog_1_method_1_code 53 = .ok (.invokespecial 36, 3) := ge_invokespecial (by decide +kernel)
theorem d_X11_init_56 : decode prog_1_method_1_code 56 = .ok (.astore_n 1, 1) := ge_astore_n_1 (by decide +kernel)
theorem d_X11_init_57 : decode prog_1_method_1_code 57 = .ok (.aload_n 0, 1) := ge_aload_n_0 (by decide +kernel)
theorem d_X11_init_58 : decode prog_1_method_1_code 58 = .ok (.getfield 13, 3) := ge_getfield (by decide +kernel)
theorem d_X11_init_61 : decode prog_1_method_1_code 61 = .ok (.iconst 0, 1) := ge_iconst_0 (by decide +kernel)
theorem d_X11_init_62 : decode prog_1_method_1_code 62 = .ok (.aload_n 1, 1) := ge_aload_n_1 (by decide +kernel)
theorem d_X11_init_63 : decode prog_1_method_1_code 63 = .ok (.aastore, 1) := ge_aastore (by decide +kernel)
theorem d_X11_init_64 : decode prog_1_method_1_code 64 = .ok (.aload_n 0, 1) := ge_aload_n_0 (by decide +kernel)
theorem d_X11_init_65 : decode prog_1_method_1_code 65 = .ok (.getfield 13, 3) := ge_getfield (by decide +kernel)
theorem d_X11_init_68 : decode prog_1_method_1_code 68 = .ok (.iconst 1, 1) := ge_iconst_1 (by decide +kernel)
theorem d_X11_init_69 : decode prog_1_method_1_code 69 = .ok (.new 37, 3) := ge_new (by decide +kernel)
theorem d_X11_init_72 : decode prog_1_method_1_code 72 = .ok (.dup, 1) := ge_dup (by decide +kernel)
theorem d_X11_init_73 : decode prog_1_method_1_code 73 = .ok (.iconst 1, 1) := ge_iconst_1 (by decide +kernel)
theorem d_X11_init_74 : decode prog_1_method_1_code 74 = .ok (.invokespecial 39, 3) := ge_invokespecial (by decide +kernel)
theorem d_X11_init_77 : decode prog_1_method_1_code 77 = .ok (.aastore, 1) := ge_aastore (by decide +kernel)
theorem d_X11_init_78 : decode prog_1_method_1_code 78 = .ok (.aload_n 0, 1) := ge_aload_n_0 (by decide +kernel)
theorem d_X11_init_79 : decode prog_1_method_1_code 79 = .ok (.getfield 13, 3) := ge_getfield (by decide +kernel)
theorem d_X11_init_82 : decode prog_1_method_1_code 82 = .ok (.iconst 2, 1) := ge_iconst_2 (by decide +kernel)
theorem d_X11_init_83 : decode prog_1_method_1_code 83 = .ok (.new 40, 3) := ge_new (by decide +kernel)
theorem d_X11_init_86 : decode prog_1_method_1_code 86 = .ok (.dup, 1) := ge_dup (by decide +kernel)
theorem d_X11_init_87 : decode prog_1_method_1_code 87 = .ok (.iconst 2, 1) := ge_iconst_2 (by decide +kernel)
theorem d_X11_init_88 : decode prog_1_method_1_code 88 = .ok (.invokespecial 42, 3) := ge_invokespecial (by decide +kernel)
theorem d_X11_init_91 : decode prog_1_method_1_code 91 = .ok (.aastore, 1) := ge_aastore (by decide +kernel)
theorem d_X11_init_92 : decode prog_1_method_1_code 92 = .ok (.aload_n 0, 1) := ge_aload_n_0 (by decide +kernel)
theorem d_X11_init_93 : decode prog_1_method_1_code 93 = .ok (.getfield 13, 3) := ge_getfield (by decide +kernel)
theorem d_X11_init_96 : decode prog_1_method_1_code 96 = .ok (.iconst 3, 1) := ge_iconst_3 (by decide +kernel)
theorem d_X11_init_97 : decode prog_1_method_1_code 97 = .ok (.new 43, 3) := ge_new (by decide +kernel)
theorem d_X11_init_100 : decode prog_1_method_1_code 100 = .ok (.dup, 1) := ge_dup (by decide +kernel)
theorem d_X11_init_101 : decode prog_1_method_1_code 101 = .ok (.iconst 3, 1) := ge_iconst_3 (by decide +kernel)
theorem d_X11_init_102 : decode prog_1_method_1_code 102 = .ok (.invokespecial 45, 3) := ge_invokespecial (by decide +kernel)
theorem d_X11_init_105 : decode prog_1_method_1_code 105 = .ok (.aastore, 1) := ge_aastore (by decide +kernel)
theorem d_X11_init_106 : decode prog_1_method_1_code 106 = .ok (.aload_n 0, 1) := ge_aload_n_0 (by decide +kernel)
theorem d_X11_init_107 : decode prog_1_method_1_code 107 = .ok (.getfield 13, 3) := ge_getfield (by decide +kernel)
theorem d_X11_init_110 : decode prog_1_method_1_code 110 = .ok (.iconst 4, 1) := ge_iconst_4 (by decide +kernel)
theorem d_X11_init_111 : decode prog_1_method_1_code 111 = .ok (.new 46, 3) := ge_new (by decide +kernel)
theorem d_X11_init_114 : decode prog_1_method_1_code 114 = .ok (.dup, 1) := ge_dup (by decide +kernel)
theorem d_X11_init_115 : decode prog_1_method_1_code 115 = .ok (.iconst 4, 1) := ge_iconst_4 (by decide +kernel)
theorem d_X11_init_116 : decode prog_1_method_1_code 116 = .ok (.invokespecial 48, 3) := ge_invokespecial (by decide +kernel)
theorem d_X11_init_119 : decode prog_1_method_1_code 119 = .ok (.aastore, 1) := ge_aastore (by decide +kernel)
theorem d_X11_init_120 : decode prog_1_method_1_code 120 = .ok (.aload_n 0, 1) := ge_aload_n_0 (by decide +kernel)
theorem d_X11_init_121 : decode prog_1_method_1_code 121 = .ok (.getfield 13, 3) := ge_getfield (by decide +kernel)
theorem d_X11_init_124 : decode prog_1_method_1_code 124 = .ok (.iconst 5, 1) := ge_iconst_5 (by decide +kernel)
theorem d_X11_init_125 : decode prog_1_method_1_code 125 = .ok (.new 49, 3) := ge_new (by decide +kernel)
theorem d_X11_init_128 : decode prog_1_method_1_code 128 = .ok (.dup, 1) := ge_dup (by decide +kernel)
theorem d_X11_init_129 : decode prog_1_method_1_code 129 = .ok (.iconst 5, 1) := ge_iconst_5 (by decide +kernel)
theorem d_X11_init_130 : decode prog_1_method_1_code 130 = .ok (.invokespecial 51, 3) := ge_invokespecial (by decide +kernel)
theorem d_X11_init_133 : decode prog_1_method_1_code 133 = .ok (.aastore, 1) := ge_aastore (by decide +kernel)
theorem d_X11_init_134 : decode prog_1_method_1_code 134 = .ok (.aload_n 0, 1) := ge_aload_n_0 (by decide +kernel)
theorem d_X11_init_135 : decode prog_1_method_1_code 135 = .ok (.getfield 13, 3) := ge_getfield (by decide +kernel)
theorem d_X11_init_138 : decode prog_1_method_1_code 138 = .ok (.bipush 6, 2) := ge_bipush (by decide +kernel)
theorem d_X11_init_140 : decode prog_1_method_1_code 140 = .ok (.new 52, 3) := ge_new (by decide +kernel)
theorem d_X11_init_143 : decode prog_1_method_1_code 143 = .ok (.dup, 1) := ge_dup (by decide +kernel)
theorem d_X11_init_144 : decode prog_1_method_1_code 144 = .ok (.bipush 6, 2) := ge_bipush (by decide +kernel)
theorem d_X11_init_146 : decode prog_1_method_1_code 146 = .ok (.invokespecial 54, 3) := ge_invokespecial (by decide +kernel)
theorem d_X11_init_149 : decode prog_1_method_1_code 149 = .ok (.aastore, 1) := ge_aastore (by decide +kernel)
theorem d_X11_init_150 : decode prog_1_method_1_code 150 = .ok (.aload_n 0, 1) := ge_aload_n_0 (by decide +kernel)
theorem d_X11_init_151 : decode prog_1_method_1_code 151 = .ok (.new 55, 3) := ge_new (by decide +kernel)
theorem d_X11_init_154 : decode prog_1_method_1_code 154 = .ok (.dup, 1) := ge_dup (by decide +kernel)
theorem d_X11_init_155 : decode prog_1_method_1_code 155 = .ok (.aload_n 1, 1) := ge_aload_n_1 (by decide +kernel)
theorem d_X11_init_156 : decode prog_1_method_1_code 156 = .ok (.invokespecial 57, 3) := ge_invokespecial (by decide +kernel)
theorem d_X11_init_159 : decode prog_1_method_1_code 159 = .ok (.putfield 60, 3) := ge_putfield (by decide +kernel)
theorem d_X11_init_162 : decode prog_1_method_1_code 162 = .ok (.aload_n 0, 1) := ge_aload_n_0 (by decide +kernel)
theorem d_X11_init_163 : decode prog_1_method_1_code 163 = .ok (.new 55, 3) := ge_new (by decide +kernel)
theorem d_X11_init_166 : decode prog_1_method_1_code 166 = .ok (.dup, 1) := ge_dup (by decide +kernel)
theorem d_X11_init_167 : decode prog_1_method_1_code 167 = .ok (.aload_n 1, 1) := ge_aload_n_1 (by decide +kernel)
theorem d_X11_init_168 : decode prog_1_method_1_code 168 = .ok (.invokespecial 57, 3) := ge_invokespecial (by decide +kernel)
theorem d_X11_init_171 : decode prog_1_method_1_code 171 = .ok (.putfield 64, 3) := ge_putfield (by decide +kernel)
theorem d_X11_init_174 : decode prog_1_method_1_code 174 = .ok (.aload_n 0, 1) := ge_aload_n_0 (by decide +kernel)
theorem d_X11_init_175 : decode prog_1_method_1_code 175 = .ok (.new 67, 3) := ge_new (by decide +kernel)
theorem d_X11_init_178 : decode prog_1_method_1_code 178 = .ok (.dup, 1) := ge_dup (by decide +kernel)
theorem d_X11_init_179 : decode prog_1_method_1_code 179 = .ok (.iconst 0, 1) := ge_iconst_0 (by decide +kernel)
theorem d_X11_init_180 : decode prog_1_method_1_code 180 = .ok (.aload_n 1, 1) := ge_aload_n_1 (by decide +kernel)
theorem d_X11_init_181 : decode prog_1_method_1_code 181 = .ok (.invokespecial 69, 3) := ge_invokespecial (by decide +kernel)
theorem d_X11_init_184 : decode prog_1_method_1_code 184 = .ok (.putfield 72, 3) := ge_putfield (by decide +kernel)
theorem d_X11_init_187 : decode prog_1_method_1_code 187 = .ok (.return_, 1) := ge_return_ (by decide +kernel)
def f_X11_init (a0 : Nat) (μ : gm_M) : Option (Option Value × gm_M) := if gm_tag μ a0 ≠ 0 then gm_nA μ 3 (7 : Int32) 7 (fun q2 m3 => gm_pR m3 [16] a0 0 q2 (fun m4 => gm_mk m4 12 3 (fun q5 m6 => if gm_tag m6 q5 ≠ 0 then gm_bV (f_X7_init q5 (20 : Int32) m6) (fun m7 => gm_pR m7 [16] a0 4 q5 (fun m9 => gm_nA m9 1 (25 : Int32) 25 (fun q10 m11 => gm_pR m11 [16] a0 6 q10 (fun m12 => gm_nA m12 1 (5 : Int32) 5 (fun q13 m14 => gm_pR m14 [16] a0 7 q13 (fun m15 => gm_nA m15 1 (5 : Int32) 5 (fun q16 m17 => gm_pR m17 [16] a0 8 q16 (fun m18 => gm_mk m18 10 1 (fun q19 m20 => if gm_tag m20 q19 ≠ 0 then gm_bV (f_X5_init q19 (0 : Int32) m20) (fun m21 => gm_gR m21 [16] a0 0 (fun v23 => gm_sR m21 3 [10, 11, 14, 8, 9, 6, 15] v23 (0 : Int32) q19 (fun m24 => gm_gR m24 [16] a0 0 (fun v25 => gm_mk m24 11 1 (fun q26 m27 => if gm_tag m27 q26 ≠ 0 then gm_bV (f_X6_init q26 (1 : Int32) m27) (fun m28 => gm_sR m28 3 [10, 11, 14, 8, 9, 6, 15] v25 (1 : Int32) q26 (fun m30 => gm_gR m30 [16] a0 0 (fun v31 => gm_mk m30 14 1 (fun q32 m33 => if gm_tag m33 q32 ≠ 0 then gm_bV (f_X9_init q32 (2 : Int32) m33) (fun m34 => gm_sR m34 3 [10, 11, 14, 8, 9, 6, 15] v31 (2 : Int32) q32 (fun m36 => gm_gR m36 [16] a0 0 (fun v37 => gm_mk m36 8 1 (fun q38 m39 => if gm_tag m39 q38 ≠ 0 then gm_bV (f_X3_init q38 (3 : Int32) m39) (fun m40 => gm_sR m40 3 [10, 11, 14, 8, 9, 6, 15] v37 (3 : Int32) q38 (fun m42 => gm_gR m42 [16] a0 0 (fun v43 => gm_mk m42 9 1 (fun q44 m45 => if gm_tag m45 q44 ≠ 0 then gm_bV (f_X4_init q44 (4 : Int32) m45) (fun m46 => gm_sR m46 3 [10, 11, 14, 8, 9, 6, 15] v43 (4 : Int32) q44 (fun m48 => gm_gR m48 [16] a0 0 (fun v49 => gm_mk m48 6 1 (fun q50 m51 => if gm_tag m51 q50 ≠ 0 then gm_bV (f_X1_init q50 (5 : Int32) m51) (fun m52 => gm_sR m52 3 [10, 11, 14, 8, 9, 6, 15] v49 (5 : Int32) q50 (fun m54 => gm_gR m54 [16] a0 0 (fun v55 => gm_mk m54 15 1 (fun q56 m57 => if gm_tag m57 q56 ≠ 0 then gm_bV (f_X10_init q56 (6 : Int32) m57) (fun m58 => gm_sR m58 3 [10, 11, 14, 8, 9, 6, 15] v55 (6 : Int32) q56 (fun m60 => gm_mk m60 13 10 (fun q61 m62 => if gm_tag m62 q61 ≠ 0 then gm_bV (f_X8_init q61 q19 m62) (fun m63 => gm_pR m63 [16] a0 1 q61 (fun m65 => gm_mk m65 13 10 (fun q66 m67 => if gm_tag m67 q66 ≠ 0 then gm_bV (f_X8_init q66 q19 m67) (fun m68 => gm_pR m68 [16] a0 2 q66 (fun m70 => gm_mk m70 7 9 (fun q71 m72 => if gm_tag m72 q71 ≠ 0 then gm_bV (f_X2_init q71 (0 : Int32) q19 m72) (fun m73 => gm_pR m73 [16] a0 5 q71 (fun m75 => some (none, m75))) else none))) else none))) else none))) else none)))) else none)))) else none)))) else none)))) else none)))) else none))))) else none))))))))) else none))) else none
set_option maxHeartbeats 4000000 in
theorem c_X11_init (a0 : Nat) (μ : gm_M) : gm_Call ({ cls := "GumBubble", name := "<init>", desc := "()V" } : Jvm.MethodName) prog_1_method_1_code 2 none 4 75 1201 [.ref a0] μ (f_X11_init a0 μ) := by
  refine gm_start PN_11 (Nat.le_of_ble_eq_true rfl) (fun res μe => ?_)
  unfold f_X11_init
  show gm_A "GumBubble" (gm_nm "<init>") _ _ _ _ _ _ _ _ _ 0 [(0, .ref a0)] [] _ _
  refine gm_aload_n d_X11_init_0 rfl 0 rfl ?_
  refine gm_grd (fun g1 => ?_)
  refine gm_obj g1 gw_26 gw_27 gw_28 (Nat.le_of_ble_eq_true rfl) (Nat.le_of_ble_eq_true rfl) rfl d_X11_init_1 ?_
  refine gm_aload_n d_X11_init_4 rfl 0 rfl ?_
  refine gm_bipush (v := 7) d_X11_init_5 (by decide) ?_
  refine gm_anewA (t := 3) (B := 7) (Or.inl ⟨rfl, rfl⟩) (Nat.le_of_ble_eq_true rfl) gw_29 (Nat.le_of_ble_eq_true rfl) (Nat.le_of_ble_eq_true rfl) d_X11_init_7 (fun q2 m3 _ _ => ?_)
  refine gm_putR F_11_kinds (Or.inr ⟨rfl, rfl⟩) gw_261 d_X11_init_10 (fun m4 _ => ?_)
  refine gm_aload_n d_X11_init_13 rfl 0 rfl ?_
  refine gm_new (k0 := 7) (T := gm_T7) (N := 3) rfl gw_31 gw_32 gw_2 (Nat.le_of_ble_eq_true rfl) (Nat.le_of_ble_eq_true rfl) d_X11_init_14 (fun q5 m6 _ _ => ?_)
  refine gm_dup d_X11_init_17 rfl ?_
  refine gm_bipush (v := 20) d_X11_init_18 (by decide) ?_
  refine gm_grd (fun g20 => ?_)
  refine gm_callI [.int (20 : Int32)] (c_X7_init q5 (20 : Int32) m6) g20 rfl B_X7_init gw_33 rfl rfl rfl d_X11_init_20 (gm_kV (fun m7 => ?_))
  refine gm_putR F_11_trace (Or.inr ⟨rfl, rfl⟩) gw_265 d_X11_init_23 (fun m9 _ => ?_)
  refine gm_aload_n d_X11_init_26 rfl 0 rfl ?_
  refine gm_bipush (v := 25) d_X11_init_27 (by decide) ?_
  refine gm_newaI (B := 25) (Nat.le_of_ble_eq_true rfl) gw_51 (Nat.le_of_ble_eq_true rfl) (Nat.le_of_ble_eq_true rfl) d_X11_init_29 (fun q10 m11 _ _ => ?_)
  refine gm_putR F_11_behind (Or.inr ⟨rfl, rfl⟩) gw_267 d_X11_init_31 (fun m12 _ => ?_)
  refine gm_aload_n d_X11_init_34 rfl 0 rfl ?_
  refine gm_iconst (v := 5) d_X11_init_35 (by decide) ?_
  refine gm_newaI (B := 5) (Nat.le_of_ble_eq_true rfl) gw_51 (Nat.le_of_ble_eq_true rfl) (Nat.le_of_ble_eq_true rfl) d_X11_init_36 (fun q13 m14 _ _ => ?_)
  refine gm_putR F_11_tried (Or.inr ⟨rfl, rfl⟩) gw_268 d_X11_init_38 (fun m15 _ => ?_)
  refine gm_aload_n d_X11_init_41 rfl 0 rfl ?_
  refine gm_iconst (v := 5) d_X11_init_42 (by decide) ?_
  refine gm_newaI (B := 5) (Nat.le_of_ble_eq_true rfl) gw_51 (Nat.le_of_ble_eq_true rfl) (Nat.le_of_ble_eq_true rfl) d_X11_init_43 (fun q16 m17 _ _ => ?_)
  refine gm_putR F_11_best (Or.inr ⟨rfl, rfl⟩) gw_269 d_X11_init_45 (fun m18 _ => ?_)
  refine gm_new (k0 := 5) (T := gm_T5) (N := 1) rfl gw_29 gw_52 gw_4 (Nat.le_of_ble_eq_true rfl) (Nat.le_of_ble_eq_true rfl) d_X11_init_48 (fun q19 m20 _ _ => ?_)
  refine gm_dup d_X11_init_51 rfl ?_
  refine gm_iconst (v := 0) d_X11_init_52 (by decide) ?_
  refine gm_grd (fun g53 => ?_)
  refine gm_callI [.int (0 : Int32)] (c_X5_init q19 (0 : Int32) m20) g53 rfl B_X5_init gw_53 rfl rfl rfl d_X11_init_53 (gm_kV (fun m21 => ?_))
  refine gm_astore_n (L' := [(1, .ref q19), (0, .ref a0)]) d_X11_init_56 rfl (Nat.le_of_ble_eq_true rfl) rfl ?_
  refine gm_aload_n d_X11_init_57 rfl 1 rfl ?_
  refine gm_getR F_11_kinds gw_261 d_X11_init_58 (fun v23 _ => ?_)
  refine gm_iconst (v := 0) d_X11_init_61 (by decide) ?_
  refine gm_aload_n d_X11_init_62 rfl 0 rfl ?_
  refine gm_aast (Or.inl ⟨rfl, rfl⟩) Sub_3 d_X11_init_63 (fun m24 _ => ?_)
  refine gm_aload_n d_X11_init_64 rfl 1 rfl ?_
  refine gm_getR F_11_kinds gw_261 d_X11_init_65 (fun v25 _ => ?_)
  refine gm_iconst (v := 1) d_X11_init_68 (by decide) ?_
  refine gm_new (k0 := 6) (T := gm_T6) (N := 1) rfl gw_63 gw_64 gw_5 (Nat.le_of_ble_eq_true rfl) (Nat.le_of_ble_eq_true rfl) d_X11_init_69 (fun q26 m27 _ _ => ?_)
  refine gm_dup d_X11_init_72 rfl ?_
  refine gm_iconst (v := 1) d_X11_init_73 (by decide) ?_
  refine gm_grd (fun g74 => ?_)
  refine gm_callI [.int (1 : Int32)] (c_X6_init q26 (1 : Int32) m27) g74 rfl B_X6_init gw_65 rfl rfl rfl d_X11_init_74 (gm_kV (fun m28 => ?_))
  refine gm_aast (Or.inl ⟨rfl, rfl⟩) Sub_3 d_X11_init_77 (fun m30 _ => ?_)
  refine gm_aload_n d_X11_init_78 rfl 1 rfl ?_
  refine gm_getR F_11_kinds gw_261 d_X11_init_79 (fun v31 _ => ?_)
  refine gm_iconst (v := 2) d_X11_init_82 (by decide) ?_
  refine gm_new (k0 := 9) (T := gm_T9) (N := 1) rfl gw_71 gw_72 gw_6 (Nat.le_of_ble_eq_true rfl) (Nat.le_of_ble_eq_true rfl) d_X11_init_83 (fun q32 m33 _ _ => ?_)
  refine gm_dup d_X11_init_86 rfl ?_
  refine gm_iconst (v := 2) d_X11_init_87 (by decide) ?_
  refine gm_grd (fun g88 => ?_)
  refine gm_callI [.int (2 : Int32)] (c_X9_init q32 (2 : Int32) m33) g88 rfl B_X9_init gw_73 rfl rfl rfl d_X11_init_88 (gm_kV (fun m34 => ?_))
  refine gm_aast (Or.inl ⟨rfl, rfl⟩) Sub_3 d_X11_init_91 (fun m36 _ => ?_)
  refine gm_aload_n d_X11_init_92 rfl 1 rfl ?_
  refine gm_getR F_11_kinds gw_261 d_X11_init_93 (fun v37 _ => ?_)
  refine gm_iconst (v := 3) d_X11_init_96 (by decide) ?_
  refine gm_new (k0 := 3) (T := gm_T3) (N := 1) rfl gw_79 gw_80 gw_7 (Nat.le_of_ble_eq_true rfl) (Nat.le_of_ble_eq_true rfl) d_X11_init_97 (fun q38 m39 _ _ => ?_)
  refine gm_dup d_X11_init_100 rfl ?_
  refine gm_iconst (v := 3) d_X11_init_101 (by decide) ?_
  refine gm_grd (fun g102 => ?_)
  refine gm_callI [.int (3 : Int32)] (c_X3_init q38 (3 : Int32) m39) g102 rfl B_X3_init gw_81 rfl rfl rfl d_X11_init_102 (gm_kV (fun m40 => ?_))
  refine gm_aast (Or.inl ⟨rfl, rfl⟩) Sub_3 d_X11_init_105 (fun m42 _ => ?_)
  refine gm_aload_n d_X11_init_106 rfl 1 rfl ?_
  refine gm_getR F_11_kinds gw_261 d_X11_init_107 (fun v43 _ => ?_)
  refine gm_iconst (v := 4) d_X11_init_110 (by decide) ?_
  refine gm_new (k0 := 4) (T := gm_T4) (N := 1) rfl gw_87 gw_88 gw_8 (Nat.le_of_ble_eq_true rfl) (Nat.le_of_ble_eq_true rfl) d_X11_init_111 (fun q44 m45 _ _ => ?_)
  refine gm_dup d_X11_init_114 rfl ?_
  refine gm_iconst (v := 4) d_X11_init_115 (by decide) ?_
  refine gm_grd (fun g116 => ?_)
  refine gm_callI [.int (4 : Int32)] (c_X4_init q44 (4 : Int32) m45) g116 rfl B_X4_init gw_89 rfl rfl rfl d_X11_init_116 (gm_kV (fun m46 => ?_))
  refine gm_aast (Or.inl ⟨rfl, rfl⟩) Sub_3 d_X11_init_119 (fun m48 _ => ?_)
  refine gm_aload_n d_X11_init_120 rfl 1 rfl ?_
  refine gm_getR F_11_kinds gw_261 d_X11_init_121 (fun v49 _ => ?_)
  refine gm_iconst (v := 5) d_X11_init_124 (by decide) ?_
  refine gm_new (k0 := 1) (T := gm_T1) (N := 1) rfl gw_95 gw_96 gw_9 (Nat.le_of_ble_eq_true rfl) (Nat.le_of_ble_eq_true rfl) d_X11_init_125 (fun q50 m51 _ _ => ?_)
  refine gm_dup d_X11_init_128 rfl ?_
  refine gm_iconst (v := 5) d_X11_init_129 (by decide) ?_
  refine gm_grd (fun g130 => ?_)
  refine gm_callI [.int (5 : Int32)] (c_X1_init q50 (5 : Int32) m51) g130 rfl B_X1_init gw_97 rfl rfl rfl d_X11_init_130 (gm_kV (fun m52 => ?_))
  refine gm_aast (Or.inl ⟨rfl, rfl⟩) Sub_3 d_X11_init_133 (fun m54 _ => ?_)
  refine gm_aload_n d_X11_init_134 rfl 1 rfl ?_
  refine gm_getR F_11_kinds gw_261 d_X11_init_135 (fun v55 _ => ?_)
  refine gm_bipush (v := 6) d_X11_init_138 (by decide) ?_
  refine gm_new (k0 := 10) (T := gm_T10) (N := 1) rfl gw_103 gw_104 gw_10 (Nat.le_of_ble_eq_true rfl) (Nat.le_of_ble_eq_true rfl) d_X11_init_140 (fun q56 m57 _ _ => ?_)
  refine gm_dup d_X11_init_143 rfl ?_
  refine gm_bipush (v := 6) d_X11_init_144 (by decide) ?_
  refine gm_grd (fun g146 => ?_)
  refine gm_callI [.int (6 : Int32)] (c_X10_init q56 (6 : Int32) m57) g146 rfl B_X10_init gw_105 rfl rfl rfl d_X11_init_146 (gm_kV (fun m58 => ?_))
  refine gm_aast (Or.inl ⟨rfl, rfl⟩) Sub_3 d_X11_init_149 (fun m60 _ => ?_)
  refine gm_aload_n d_X11_init_150 rfl 1 rfl ?_
  refine gm_new (k0 := 8) (T := gm_T8) (N := 10) rfl gw_111 gw_112 gw_11 (Nat.le_of_ble_eq_true rfl) (Nat.le_of_ble_eq_true rfl) d_X11_init_151 (fun q61 m62 _ _ => ?_)
  refine gm_dup d_X11_init_154 rfl ?_
  refine gm_aload_n d_X11_init_155 rfl 0 rfl ?_
  refine gm_grd (fun g156 => ?_)
  refine gm_callI [.ref q19] (c_X8_init q61 q19 m62) g156 rfl B_X8_init gw_113 rfl rfl rfl d_X11_init_156 (gm_kV (fun m63 => ?_))
  refine gm_putR F_11_now (Or.inr ⟨rfl, rfl⟩) gw_262 d_X11_init_159 (fun m65 _ => ?_)
  refine gm_aload_n d_X11_init_162 rfl 1 rfl ?_
  refine gm_new (k0 := 8) (T := gm_T8) (N := 10) rfl gw_111 gw_112 gw_11 (Nat.le_of_ble_eq_true rfl) (Nat.le_of_ble_eq_true rfl) d_X11_init_163 (fun q66 m67 _ _ => ?_)
  refine gm_dup d_X11_init_166 rfl ?_
  refine gm_aload_n d_X11_init_167 rfl 0 rfl ?_
  refine gm_grd (fun g168 => ?_)
  refine gm_callI [.ref q19] (c_X8_init q66 q19 m67) g168 rfl B_X8_init gw_113 rfl rfl rfl d_X11_init_168 (gm_kV (fun m68 => ?_))
  refine gm_putR F_11_kept (Or.inr ⟨rfl, rfl⟩) gw_263 d_X11_init_171 (fun m70 _ => ?_)
  refine gm_aload_n d_X11_init_174 rfl 1 rfl ?_
  refine gm_new (k0 := 2) (T := gm_T2) (N := 9) rfl gw_259 gw_161 gw_13 (Nat.le_of_ble_eq_true rfl) (Nat.le_of_ble_eq_true rfl) d_X11_init_175 (fun q71 m72 _ _ => ?_)
  refine gm_dup d_X11_init_178 rfl ?_
  refine gm_iconst (v := 0) d_X11_init_179 (by decide) ?_
  refine gm_aload_n d_X11_init_180 rfl 0 rfl ?_
  refine gm_grd (fun g181 => ?_)
  refine gm_callI [.int (0 : Int32), .ref q19] (c_X2_init q71 (0 : Int32) q19 m72) g181 rfl B_X2_init gw_260 rfl rfl rfl d_X11_init_181 (gm_kV (fun m73 => ?_))
  refine gm_putR F_11_trial (Or.inr ⟨rfl, rfl⟩) gw_266 d_X11_init_184 (fun m75 _ => ?_)
  exact gm_vret rfl d_X11_init_187 (Nat.le_of_ble_eq_true rfl) (Nat.le_of_ble_eq_true rfl) (fun h => h)
theorem d_X11_likely_0 : decode prog_1_method_17_code 0 = .ok (.aload_n 0, 1) := ge_aload_n_0 (by decide +kernel)
theorem d_X11_likely_1 : decode prog_1_method_17_code 1 = .ok (.iload_n 1, 1) := ge_iload_n_1 (by decide +kernel)
theorem d_X11_likely_2 : decode prog_1_method_17_code 2 = .ok (.invokevirtual 115, 3) := ge_invokevirtual (by decide +kernel)
theorem d_X11_likely_5 : decode prog_1_method_17_code 5 = .ok (.ifCond .ne 23, 3) := ge_ifCond_ne (by decide +kernel)
theorem d_X11_likely_8 : decode prog_1_method_17_code 8 = .ok (.iload_n 2, 1) := ge_iload_n_2 (by decide +kernel)
theorem d_X11_likely_9 : decode prog_1_method_17_code 9 = .ok (.iconst 0, 1) := ge_iconst_0 (by decide +kernel)
theorem d_X11_likely_10 : decode prog_1_method_17_code 10 = .ok (.sipush 999, 3) := ge_sipush (by decide +kernel)
theorem d_X11_likely_13 : decode prog_1_method_17_code 13 = .ok (.invokestatic 76, 3) := ge_invokestatic (by decide +kernel)
theorem d_X11_likely_16 : decode prog_1_method_17_code 16 = .ok (.ifCond .ne 12, 3) := ge_ifCond_ne (by decide +kernel)
theorem d_X11_likely_19 : decode prog_1_method_17_code 19 = .ok (.iload_n 3, 1) := ge_iload_n_3 (by decide +kernel)
theorem d_X11_likely_20 : decode prog_1_method_17_code 20 = .ok (.iconst 0, 1) := ge_iconst_0 (by decide +kernel)
theorem d_X11_likely_21 : decode prog_1_method_17_code 21 = .ok (.iconst 1, 1) := ge_iconst_1 (by decide +kernel)
theorem d_X11_likely_22 : decode prog_1_method_17_code 22 = .ok (.invokestatic 76, 3) := ge_invokestatic (by decide +kernel)
theorem d_X11_likely_25 : decode prog_1_method_17_code 25 = .ok (.ifCond .eq 7, 3) := ge_ifCond_eq (by decide +kernel)
theorem d_X11_likely_28 : decode prog_1_method_17_code 28 = .ok (.ldc2_w 202, 3) := ge_ldc2_w (by decide +kernel)
theorem d_X11_likely_31 : decode prog_1_method_17_code 31 = .ok (.lreturn, 1) := ge_lreturn (by decide +kernel)
theorem d_X11_likely_32 : decode prog_1_method_17_code 32 = .ok (.aload_n 0, 1) := ge_aload_n_0 (by decide +kernel)
theorem d_X11_likely_33 : decode prog_1_method_17_code 33 = .ok (.iload_n 1, 1) := ge_iload_n_1 (by decide +kernel)
theorem d_X11_likely_34 : decode prog_1_method_17_code 34 = .ok (.invokevirtual 158, 3) := ge_invokevirtual (by decide +kernel)
theorem d_X11_likely_37 : decode prog_1_method_17_code 37 = .ok (.iload_n 2, 1) := ge_iload_n_2 (by decide +kernel)
theorem d_X11_likely_38 : decode prog_1_method_17_code 38 = .ok (.invokestatic 204, 3) := ge_invokestatic (by decide +kernel)
theorem d_X11_likely_41 : decode prog_1_method_17_code 41 = .ok (.bipush 10, 2) := ge_bipush (by decide +kernel)
theorem d_X11_likely_43 : decode prog_1_method_17_code 43 = .ok (.iload_n 3, 1) := ge_iload_n_3 (by decide +kernel)
theorem d_X11_likely_44 : decode prog_1_method_17_code 44 = .ok (.invokestatic 207, 3) := ge_invokestatic (by decide +kernel)
theorem d_X11_likely_47 : decode prog_1_method_17_code 47 = .ok (.lreturn, 1) := ge_lreturn (by decide +kernel)
def f_X11_likely (a0 : Nat) (a1 : Int32) (a2 : Int32) (a3 : Int32) (μ : gm_M) : Option (Option Value × gm_M) := if gm_tag μ a0 = 16 then gm_bI (f_X11_isNobody a0 a1 μ) (fun x2 m1 => gm_j (fun (s3 : gm_M) => some (some (.long (-9223372036854775808 : Int64)), s3)) (fun j4 => if x2 ≠ 0 then j4 m1 else gm_bI (f_X11_isOutside a2 (0 : Int32) (999 : Int32) m1) (fun x6 m5 => if x6 ≠ 0 then j4 m5 else gm_bI (f_X11_isOutside a3 (0 : Int32) (1 : Int32) m5) (fun x8 m7 => if x8 = 0 then if gm_tag m7 a0 = 16 then gm_bI (f_X11_holdsNow a0 a1 m7) (fun x10 m9 => gm_bI (f_X11_thinsBearing x10 a2 m9) (fun x12 m11 => gm_bL (f_X11_fraction x12 (10 : Int32) a3 m11) (fun x14 m13 => some (some (.long x14), m13)))) else none else j4 m7)))) else none
set_option maxHeartbeats 4000000 in
theorem c_X11_likely (a0 : Nat) (a1 : Int32) (a2 : Int32) (a3 : Int32) (μ : gm_M) : gm_Call ({ cls := "GumBubble", name := "likely", desc := "(III)J" } : Jvm.MethodName) prog_1_method_17_code 4 (some .long) 5 0 0 [.ref a0, .int a1, .int a2, .int a3] μ (f_X11_likely a0 a1 a2 a3 μ) := by
  refine gm_start PN_11 (Nat.le_of_ble_eq_true rfl) (fun res μe => ?_)
  unfold f_X11_likely
  show gm_A "GumBubble" (gm_nm "likely") _ _ _ _ _ _ _ _ _ 0 [(0, .ref a0), (1, .int a1), (2, .int a2), (3, .int a3)] [] _ _
  refine gm_aload_n d_X11_likely_0 rfl 0 rfl ?_
  refine gm_iload_n d_X11_likely_1 rfl 1 rfl ?_
  refine gm_grd (fun g2 => ?_)
  refine gm_callV (k0 := 11) [.int a1] (c_X11_isNobody a0 a1 μ) g2 rfl B_X11_isNobody gw_478 gs_11 rfl rfl rfl d_X11_likely_2 (gm_kI (fun x2 m1 => ?_))
  refine gm_join (S := gm_M) (pj := 28) (kj := 0) (nj := 0) (fun s3 => s3) (fun s3 => [(0, .ref a0), (1, .int a1), (2, .int a2), (3, .int a3)]) (fun s3 => []) (fun s3 => ?_) (fun j4 hj4 => ?_)
  ·
    refine gm_ldc2 (v := -9223372036854775808) gw_652 d_X11_likely_28 ?_
    exact gm_lret rfl d_X11_likely_31 (Nat.le_of_ble_eq_true rfl) (Nat.le_of_ble_eq_true rfl) (fun h => h)
  ·
    refine gm_if_ne (tgt := 28) d_X11_likely_5 (by decide) (fun h5 => ?_) (fun h5 => ?_)
    ·
      exact hj4 m1
    ·
      refine gm_iload_n d_X11_likely_8 rfl 2 rfl ?_
      refine gm_iconst (v := 0) d_X11_likely_9 (by decide) ?_
      refine gm_sipush (v := 999) d_X11_likely_10 (by decide) ?_
      refine gm_callS [.int a2, .int (0 : Int32), .int (999 : Int32)] (c_X11_isOutside a2 (0 : Int32) (999 : Int32) m1) B_X11_isOutside gw_296 rfl rfl rfl d_X11_likely_13 (gm_kI (fun x6 m5 => ?_))
      refine gm_if_ne (tgt := 28) d_X11_likely_16 (by decide) (fun h16 => ?_) (fun h16 => ?_)
      ·
        exact hj4 m5
      ·
        refine gm_iload_n d_X11_likely_19 rfl 3 rfl ?_
        refine gm_iconst (v := 0) d_X11_likely_20 (by decide) ?_
        refine gm_iconst (v := 1) d_X11_likely_21 (by decide) ?_
        refine gm_callS [.int a3, .int (0 : Int32), .int (1 : Int32)] (c_X11_isOutside a3 (0 : Int32) (1 : Int32) m5) B_X11_isOutside gw_296 rfl rfl rfl d_X11_likely_22 (gm_kI (fun x8 m7 => ?_))
        refine gm_if_eq (tgt := 32) d_X11_likely_25 (by decide) (fun h25 => ?_) (fun h25 => ?_)
        ·
          refine gm_aload_n d_X11_likely_32 rfl 0 rfl ?_
          refine gm_iload_n d_X11_likely_33 rfl 1 rfl ?_
          refine gm_grd (fun g34 => ?_)
          refine gm_callV (k0 := 11) [.int a1] (c_X11_holdsNow a0 a1 m7) g34 rfl B_X11_holdsNow gw_541 gs_13 rfl rfl rfl d_X11_likely_34 (gm_kI (fun x10 m9 => ?_))
          refine gm_iload_n d_X11_likely_37 rfl 2 rfl ?_
          refine gm_callS [.int x10, .int a2] (c_X11_thinsBearing x10 a2 m9) B_X11_thinsBearing gw_653 rfl rfl rfl d_X11_likely_38 (gm_kI (fun x12 m11 => ?_))
          refine gm_bipush (v := 10) d_X11_likely_41 (by decide) ?_
          refine gm_iload_n d_X11_likely_43 rfl 3 rfl ?_
          refine gm_callS [.int x12, .int (10 : Int32), .int a3] (c_X11_fraction x12 (10 : Int32) a3 m11) B_X11_fraction gw_662 rfl rfl rfl d_X11_likely_44 (gm_kL (fun x14 m13 => ?_))
          exact gm_lret rfl d_X11_likely_47 (Nat.le_of_ble_eq_true rfl) (Nat.le_of_ble_eq_true rfl) (fun h => h)
        ·
          exact hj4 m7
theorem d_X11_looked_0 : decode prog_1_method_32_code 0 = .ok (.iconst 0, 1) := ge_iconst_0 (by decide +kernel)
theorem d_X11_looked_1 : decode prog_1_method_32_code 1 = .ok (.istore_n 1, 1) := ge_istore_n_1 (by decide +kernel)
theorem d_X11_looked_2 : decode prog_1_method_32_code 2 = .ok (.iload_n 1, 1) := ge_iload_n_1 (by decide +kernel)
theorem d_X11_looked_3 : decode prog_1_method_32_code 3 = .ok (.aload_n 0, 1) := ge_aload_n_0 (by decide +kernel)
theorem d_X11_looked_4 : decode prog_1_method_32_code 4 = .ok (.getfield 60, 3) := ge_getfield (by decide +kernel)
theorem d_X11_looked_7 : decode prog_1_method_32_code 7 = .ok (.getfield 256, 3) := ge_getfield (by decide +kernel)
theorem d_X11_looked_10 : decode prog_1_method_32_code 10 = .ok (.getfield 259, 3) := ge_getfield (by decide +kernel)
theorem d_X11_looked_13 : decode prog_1_method_32_code 13 = .ok (.if_icmp .ge 59, 3) := ge_if_icmp_ge (by decide +kernel)
theorem d_X11_looked_16 : decode prog_1_method_32_code 16 = .ok (.aload_n 0, 1) := ge_aload_n_0 (by decide +kernel)
theorem d_X11_looked_17 : decode prog_1_method_32_code 17 = .ok (.getfield 60, 3) := ge_getfield (by decide +kernel)
theorem d_X11_looked_20 : decode prog_1_method_32_code 20 = .ok (.getfield 256, 3) := ge_getfield (by decide +kernel)
theorem d_X11_looked_23 : decode prog_1_method_32_code 23 = .ok (.iload_n 1, 1) := ge_iload_n_1 (by decide +kernel)
theorem d_X11_looked_24 : decode prog_1_method_32_code 24 = .ok (.iconst 0, 1) := ge_iconst_0 (by decide +kernel)
theorem d_X11_looked_25 : decode prog_1_method_32_code 25 = .ok (.invokevirtual 262, 3) := ge_invokevirtual (by decide +kernel)
theorem d_X11_looked_28 : decode prog_1_method_32_code 28 = .ok (.istore_n 2, 1) := ge_istore_n_2 (by decide +kernel)
theorem d_X11_looked_29 : decode prog_1_method_32_code 29 = .ok (.aload_n 0, 1) := ge_aload_n_0 (by decide +kernel)
theorem d_X11_looked_30 : decode prog_1_method_32_code 30 = .ok (.iload_n 2, 1) := ge_iload_n_2 (by decide +kernel)
theorem d_X11_looked_31 : decode prog_1_method_32_code 31 = .ok (.invokevirtual 115, 3) := ge_invokevirtual (by decide +kernel)
theorem d_X11_looked_34 : decode prog_1_method_32_code 34 = .ok (.ifCond .ne 32, 3) := ge_ifCond_ne (by decide +kernel)
theorem d_X11_looked_37 : decode prog_1_method_32_code 37 = .ok (.aload_n 0, 1) := ge_aload_n_0 (by decide +kernel)
theorem d_X11_looked_38 : decode prog_1_method_32_code 38 = .ok (.getfield 60, 3) := ge_getfield (by decide +kernel)
theorem d_X11_looked_41 : decode prog_1_method_32_code 41 = .ok (.getfield 104, 3) := ge_getfield (by decide +kernel)
theorem d_X11_looked_44 : decode prog_1_method_32_code 44 = .ok (.iload_n 2, 1) := ge_iload_n_2 (by decide +kernel)
theorem d_X11_looked_45 : decode prog_1_method_32_code 45 = .ok (.aaload, 1) := ge_aaload (by decide +kernel)
theorem d_X11_looked_46 : decode prog_1_method_32_code 46 = .ok (.getfield 138, 3) := ge_getfield (by decide +kernel)
theorem d_X11_looked_49 : decode prog_1_method_32_code 49 = .ok (.aload_n 0, 1) := ge_aload_n_0 (by decide +kernel)
theorem d_X11_looked_50 : decode prog_1_method_32_code 50 = .ok (.getfield 60, 3) := ge_getfield (by decide +kernel)
theorem d_X11_looked_53 : decode prog_1_method_32_code 53 = .ok (.getfield 256, 3) := ge_getfield (by decide +kernel)
theorem d_X11_looked_56 : decode prog_1_method_32_code 56 = .ok (.iload_n 1, 1) := ge_iload_n_1 (by decide +kernel)
theorem d_X11_looked_57 : decode prog_1_method_32_code 57 = .ok (.iconst 1, 1) := ge_iconst_1 (by decide +kernel)
theorem d_X11_looked_58 : decode prog_1_method_32_code 58 = .ok (.invokevirtual 262, 3) := ge_invokevirtual (by decide +kernel)
theorem d_X11_looked_61 : decode prog_1_method_32_code 61 = .ok (.if_icmp .eq 5, 3) := ge_if_icmp_eq (by decide +kernel)
theorem d_X11_looked_64 : decode prog_1_method_32_code 64 = .ok (.iload_n 1, 1) := ge_iload_n_1 (by decide +kernel)
theorem d_X11_looked_65 : decode prog_1_method_32_code 65 = .ok (.ireturn, 1) := ge_ireturn (by decide +kernel)
theorem d_X11_looked_66 : decode prog_1_method_32_code 66 = .ok (.iinc 1 1, 3) := ge_iinc (by decide +kernel)
theorem d_X11_looked_69 : decode prog_1_method_32_code 69 = .ok (.goto (-67), 3) := ge_goto (by decide +kernel)
theorem d_X11_looked_72 : decode prog_1_method_32_code 72 = .ok (.bipush (-5), 2) := ge_bipush (by decide +kernel)
theorem d_X11_looked_74 : decode prog_1_method_32_code 74 = .ok (.ireturn, 1) := ge_ireturn (by decide +kernel)
def f_X11_looked (a0 : Nat) (μ : gm_M) : Option (Option Value × gm_M) := gm_loop (fun (s1 : Int32 × gm_M) => gm_gR s1.2 [16] a0 1 (fun v2 => gm_gR s1.2 [13] v2 9 (fun v3 => gm_gI s1.2 [12] v3 2 (fun v4 => if v4 ≤ s1.1 then some (Sum.inr (some (.int (-5 : Int32)), s1.2)) else gm_gR s1.2 [16] a0 1 (fun v5 => gm_gR s1.2 [13] v5 9 (fun v6 => if gm_tag s1.2 v6 = 12 then gm_bI (f_X7_cell v6 s1.1 (0 : Int32) s1.2) (fun x8 m7 => if gm_tag m7 a0 = 16 then gm_bI (f_X11_isNobody a0 x8 m7) (fun x10 m9 => gm_j (fun (s11 : gm_M) => some (Sum.inl ((s1.1 + (1 : Int32)), s11))) (fun j12 => if x10 ≠ 0 then j12 m9 else gm_gR m9 [16] a0 1 (fun v13 => gm_gR m9 [13] v13 2 (fun v14 => gm_aR m9 4 v14 x8 (fun v15 => gm_gI m9 [7] v15 6 (fun v16 => gm_gR m9 [16] a0 1 (fun v17 => gm_gR m9 [13] v17 9 (fun v18 => if gm_tag m9 v18 = 12 then gm_bI (f_X7_cell v18 s1.1 (1 : Int32) m9) (fun x20 m19 => if v16 = x20 then j12 m19 else some (Sum.inr (some (.int s1.1), m19))) else none)))))))) else none) else none)))))) 5000 ((0 : Int32), μ)
set_option maxHeartbeats 4000000 in
theorem c_X11_looked (a0 : Nat) (μ : gm_M) : gm_Call ({ cls := "GumBubble", name := "looked", desc := "()I" } : Jvm.MethodName) prog_1_method_32_code 3 (some .int) 2 0 0 [.ref a0] μ (f_X11_looked a0 μ) := by
  refine gm_start PN_11 (Nat.le_of_ble_eq_true rfl) (fun res μe => ?_)
  unfold f_X11_looked
  show gm_A "GumBubble" (gm_nm "looked") _ _ _ _ _ _ _ _ _ 0 [(0, .ref a0)] [] _ _
  refine gm_iconst (v := 0) d_X11_looked_0 (by decide) ?_
  refine gm_istore_n (L' := [(1, .int (0 : Int32)), (0, .ref a0)]) d_X11_looked_1 rfl (Nat.le_of_ble_eq_true rfl) rfl ?_
  refine gm_sub (L' := [(0, .ref a0), (1, .int (0 : Int32))]) [1, 0] rfl ?_
  refine gm_lp (S := Int32 × gm_M) (fun _ => 0) (fun _ => 0) (fun s1 => s1.2) (fun s1 => [(0, .ref a0), (1, .int s1.1)]) (fun _ => []) (fun s1 => ?_) 5000 ((0 : Int32), μ)
  refine gm_iload_n d_X11_looked_2 rfl 1 rfl ?_
  refine gm_aload_n d_X11_looked_3 rfl 0 rfl ?_
  refine gm_getR F_11_now gw_262 d_X11_looked_4 (fun v2 _ => ?_)
  refine gm_getR F_8_book gw_237 d_X11_looked_7 (fun v3 _ => ?_)
  refine gm_getI F_7_count gw_43 d_X11_looked_10 (fun v4 _ => ?_)
  refine gm_icmp_ge (tgt := 72) d_X11_looked_13 (by decide) (fun h13 => ?_) (fun h13 => ?_)
  ·
    refine gm_bipush (v := -5) d_X11_looked_72 (by decide) ?_
    exact gm_iret rfl d_X11_looked_74 (Nat.le_of_ble_eq_true rfl) (Nat.le_of_ble_eq_true rfl) (fun h => h)
  ·
    refine gm_aload_n d_X11_looked_16 rfl 0 rfl ?_
    refine gm_getR F_11_now gw_262 d_X11_looked_17 (fun v5 _ => ?_)
    refine gm_getR F_8_book gw_237 d_X11_looked_20 (fun v6 _ => ?_)
    refine gm_iload_n d_X11_looked_23 rfl 1 rfl ?_
    refine gm_iconst (v := 0) d_X11_looked_24 (by decide) ?_
    refine gm_grd (fun g25 => ?_)
    refine gm_callV (k0 := 7) [.int s1.1, .int (0 : Int32)] (c_X7_cell v6 s1.1 (0 : Int32) s1.2) g25 rfl B_X7_cell gw_734 gw_736 rfl rfl rfl d_X11_looked_25 (gm_kI (fun x8 m7 => ?_))
    refine gm_istore_n (L' := [(2, .int x8), (0, .ref a0), (1, .int s1.1)]) d_X11_looked_28 rfl (Nat.le_of_ble_eq_true rfl) rfl ?_
    refine gm_aload_n d_X11_looked_29 rfl 1 rfl ?_
    refine gm_iload_n d_X11_looked_30 rfl 0 rfl ?_
    refine gm_grd (fun g31 => ?_)
    refine gm_callV (k0 := 11) [.int x8] (c_X11_isNobody a0 x8 m7) g31 rfl B_X11_isNobody gw_478 gs_11 rfl rfl rfl d_X11_looked_31 (gm_kI (fun x10 m9 => ?_))
    refine gm_join (S := gm_M) (pj := 66) (kj := 0) (nj := 0) (fun s11 => s11) (fun s11 => [(0, .ref a0), (1, .int s1.1), (2, .int x8)]) (fun s11 => []) (fun s11 => ?_) (fun j12 hj12 => ?_)
    ·
      refine gm_iinc (v := s1.1 + (1 : Int32)) (L' := [(1, .int (s1.1 + (1 : Int32))), (0, .ref a0), (2, .int x8)]) d_X11_looked_66 1 rfl rfl (Nat.le_of_ble_eq_true rfl) rfl ?_
      refine gm_goto (tgt := 2) d_X11_looked_69 (by decide) ?_
      refine gm_sub (L' := [(0, .ref a0), (1, .int (s1.1 + (1 : Int32)))]) [1, 0] rfl ?_
      exact gm_back (fun h => h)
    ·
      refine gm_if_ne (tgt := 66) d_X11_looked_34 (by decide) (fun h34 => ?_) (fun h34 => ?_)
      ·
        refine gm_sub (L' := [(0, .ref a0), (1, .int s1.1), (2, .int x8)]) [1, 2, 0] rfl ?_
        exact hj12 m9
      ·
        refine gm_aload_n d_X11_looked_37 rfl 1 rfl ?_
        refine gm_getR F_11_now gw_262 d_X11_looked_38 (fun v13 _ => ?_)
        refine gm_getR F_8_children gw_223 d_X11_looked_41 (fun v14 _ => ?_)
        refine gm_iload_n d_X11_looked_44 rfl 0 rfl ?_
        refine gm_aald (Or.inr rfl) d_X11_looked_45 (fun v15 _ => ?_)
        refine gm_getI F_2_bubble gw_193 d_X11_looked_46 (fun v16 _ => ?_)
        refine gm_aload_n d_X11_looked_49 rfl 1 rfl ?_
        refine gm_getR F_11_now gw_262 d_X11_looked_50 (fun v17 _ => ?_)
        refine gm_getR F_8_book gw_237 d_X11_looked_53 (fun v18 _ => ?_)
        refine gm_iload_n d_X11_looked_56 rfl 2 rfl ?_
        refine gm_iconst (v := 1) d_X11_looked_57 (by decide) ?_
        refine gm_grd (fun g58 => ?_)
        refine gm_callV (k0 := 7) [.int s1.1, .int (1 : Int32)] (c_X7_cell v18 s1.1 (1 : Int32) m9) g58 rfl B_X7_cell gw_734 gw_736 rfl rfl rfl d_X11_looked_58 (gm_kI (fun x20 m19 => ?_))
        refine gm_icmp_eq (tgt := 66) d_X11_looked_61 (by decide) (fun h61 => ?_) (fun h61 => ?_)
        ·
          refine gm_sub (L' := [(0, .ref a0), (1, .int s1.1), (2, .int x8)]) [1, 2, 0] rfl ?_
          exact hj12 m19
        ·
          refine gm_iload_n d_X11_looked_64 rfl 2 rfl ?_
          exact gm_iret rfl d_X11_looked_65 (Nat.le_of_ble_eq_true rfl) (Nat.le_of_ble_eq_true rfl) (fun h => h)
end
