theorem d_X12_goesBack_0 : decode prog_14_method_8_code 0 = .ok (.iconst 0, 1) := ge_iconst_0 (by decide +kernel)
theorem d_X12_goesBack_1 : decode prog_14_method_8_code 1 = .ok (.istore_n 1, 1) := ge_istore_n_1 (by decide +kernel)
theorem d_X12_goesBack_2 : decode prog_14_method_8_code 2 = .ok (.iload_n 1, 1) := ge_iload_n_1 (by decide +kernel)
theorem d_X12_goesBack_3 : decode prog_14_method_8_code 3 = .ok (.bipush 26, 2) := ge_bipush (by decide +kernel)
theorem d_X12_goesBack_5 : decode prog_14_method_8_code 5 = .ok (.if_icmp .ge 21, 3) := ge_if_icmp_ge (by decide +kernel)
theorem d_X12_goesBack_8 : decode prog_14_method_8_code 8 = .ok (.aload_n 0, 1) := ge_aload_n_0 (by decide +kernel)
theorem d_X12_goesBack_9 : decode prog_14_method_8_code 9 = .ok (.getfield 9, 3) := ge_getfield (by decide +kernel)
theorem d_X12_goesBack_12 : decode prog_14_method_8_code 12 = .ok (.iload_n 1, 1) := ge_iload_n_1 (by decide +kernel)
theorem d_X12_goesBack_13 : decode prog_14_method_8_code 13 = .ok (.aload_n 0, 1) := ge_aload_n_0 (by decide +kernel)
theorem d_X12_goesBack_14 : decode prog_14_method_8_code 14 = .ok (.getfield 18, 3) := ge_getfield (by decide +kernel)
theorem d_X12_goesBack_17 : decode prog_14_method_8_code 17 = .ok (.iload_n 1, 1) := ge_iload_n_1 (by decide +kernel)
theorem d_X12_goesBack_18 : decode prog_14_method_8_code 18 = .ok (.iaload, 1) := ge_iaload (by decide +kernel)
theorem d_X12_goesBack_19 : decode prog_14_method_8_code 19 = .ok (.iastore, 1) := ge_iastore (by decide +kernel)
theorem d_X12_goesBack_20 : decode prog_14_method_8_code 20 = .ok (.iinc 1 1, 3) := ge_iinc (by decide +kernel)
theorem d_X12_goesBack_23 : decode prog_14_method_8_code 23 = .ok (.goto (-21), 3) := ge_goto (by decide +kernel)
theorem d_X12_goesBack_26 : decode prog_14_method_8_code 26 = .ok (.return_, 1) := ge_return_ (by decide +kernel)
def f_X12_goesBack (a0 : Nat) (μ : gm_M) : Option (Option Value × gm_M) := gm_loop (fun (s1 : Int32 × gm_M) => if (26 : Int32) ≤ s1.1 then some (Sum.inr (none, s1.2)) else gm_gR s1.2 [17] a0 1 (fun v2 => gm_gR s1.2 [17] a0 3 (fun v3 => gm_aI s1.2 v3 s1.1 (fun v4 => gm_sI s1.2 v2 s1.1 v4 (fun m5 => some (Sum.inl ((s1.1 + (1 : Int32)), m5))))))) 5000 ((0 : Int32), μ)
set_option maxHeartbeats 4000000 in
theorem c_X12_goesBack (a0 : Nat) (μ : gm_M) : gm_Call ({ cls := "GumBubbleModel", name := "goesBack", desc := "()V" } : Jvm.MethodName) prog_14_method_8_code 2 none 0 0 0 [.ref a0] μ (f_X12_goesBack a0 μ) := by
  refine gm_start PN_12 (Nat.le_of_ble_eq_true rfl) (fun res μe => ?_)
  unfold f_X12_goesBack
  show gm_A "GumBubbleModel" (gm_nm "goesBack") _ _ _ _ _ _ _ _ _ 0 [(0, .ref a0)] [] _ _
  refine gm_iconst (v := 0) d_X12_goesBack_0 (by decide) ?_
  refine gm_istore_n (L' := [(1, .int (0 : Int32)), (0, .ref a0)]) d_X12_goesBack_1 rfl (Nat.le_of_ble_eq_true rfl) rfl ?_
  refine gm_sub (L' := [(0, .ref a0), (1, .int (0 : Int32))]) [1, 0] rfl ?_
  refine gm_lp (S := Int32 × gm_M) (fun _ => 0) (fun _ => 0) (fun s1 => s1.2) (fun s1 => [(0, .ref a0), (1, .int s1.1)]) (fun _ => []) (fun s1 => ?_) 5000 ((0 : Int32), μ)
  refine gm_iload_n d_X12_goesBack_2 rfl 1 rfl ?_
  refine gm_bipush (v := 26) d_X12_goesBack_3 (by decide) ?_
  refine gm_icmp_ge (tgt := 26) d_X12_goesBack_5 (by decide) (fun h5 => ?_) (fun h5 => ?_)
  ·
    exact gm_vret rfl d_X12_goesBack_26 (Nat.le_of_ble_eq_true rfl) (Nat.le_of_ble_eq_true rfl) (fun h => h)
  ·
    refine gm_aload_n d_X12_goesBack_8 rfl 0 rfl ?_
    refine gm_getR F_12_s gw_890 d_X12_goesBack_9 (fun v2 _ => ?_)
    refine gm_iload_n d_X12_goesBack_12 rfl 1 rfl ?_
    refine gm_aload_n d_X12_goesBack_13 rfl 0 rfl ?_
    refine gm_getR F_12_frame gw_892 d_X12_goesBack_14 (fun v3 _ => ?_)
    refine gm_iload_n d_X12_goesBack_17 rfl 1 rfl ?_
    refine gm_iald d_X12_goesBack_18 (fun v4 _ => ?_)
    refine gm_iast d_X12_goesBack_19 (fun m5 _ => ?_)
    refine gm_iinc (v := s1.1 + (1 : Int32)) (L' := [(1, .int (s1.1 + (1 : Int32))), (0, .ref a0)]) d_X12_goesBack_20 1 rfl rfl (Nat.le_of_ble_eq_true rfl) rfl ?_
    refine gm_goto (tgt := 2) d_X12_goesBack_23 (by decide) ?_
    refine gm_sub (L' := [(0, .ref a0), (1, .int (s1.1 + (1 : Int32)))]) [1, 0] rfl ?_
    exact gm_back (fun h => h)
theorem d_X12_isAsSeen_0 : decode prog_14_method_67_code 0 = .ok (.iconst 1, 1) := ge_iconst_1 (by decide +kernel)
theorem d_X12_isAsSeen_1 : decode prog_14_method_67_code 1 = .ok (.istore_n 2, 1) := ge_istore_n_2 (by decide +kernel)
theorem d_X12_isAsSeen_2 : decode prog_14_method_67_code 2 = .ok (.iconst 0, 1) := ge_iconst_0 (by decide +kernel)
theorem d_X12_isAsSeen_3 : decode prog_14_method_67_code 3 = .ok (.istore_n 3, 1) := ge_istore_n_3 (by decide +kernel)
theorem d_X12_isAsSeen_4 : decode prog_14_method_67_code 4 = .ok (.iload_n 3, 1) := ge_iload_n_3 (by decide +kernel)
theorem d_X12_isAsSeen_5 : decode prog_14_method_67_code 5 = .ok (.aload_n 0, 1) := ge_aload_n_0 (by decide +kernel)
theorem d_X12_isAsSeen_6 : decode prog_14_method_67_code 6 = .ok (.getfield 9, 3) := ge_getfield (by decide +kernel)
theorem d_X12_isAsSeen_9 : decode prog_14_method_67_code 9 = .ok (.bipush 28, 2) := ge_bipush (by decide +kernel)
theorem d_X12_isAsSeen_11 : decode prog_14_method_67_code 11 = .ok (.iaload, 1) := ge_iaload (by decide +kernel)
theorem d_X12_isAsSeen_12 : decode prog_14_method_67_code 12 = .ok (.if_icmp .ge 57, 3) := ge_if_icmp_ge (by decide +kernel)
theorem d_X12_isAsSeen_15 : decode prog_14_method_67_code 15 = .ok (.iload_n 2, 1) := ge_iload_n_2 (by decide +kernel)
theorem d_X12_isAsSeen_16 : decode prog_14_method_67_code 16 = .ok (.ifCond .eq 53, 3) := ge_ifCond_eq (by decide +kernel)
theorem d_X12_isAsSeen_19 : decode prog_14_method_67_code 19 = .ok (.aload_n 0, 1) := ge_aload_n_0 (by decide +kernel)
theorem d_X12_isAsSeen_20 : decode prog_14_method_67_code 20 = .ok (.getfield 9, 3) := ge_getfield (by decide +kernel)
theorem d_X12_isAsSeen_23 : decode prog_14_method_67_code 23 = .ok (.bipush 73, 2) := ge_bipush (by decide +kernel)
theorem d_X12_isAsSeen_25 : decode prog_14_method_67_code 25 = .ok (.iload_n 3, 1) := ge_iload_n_3 (by decide +kernel)
theorem d_X12_isAsSeen_26 : decode prog_14_method_67_code 26 = .ok (.iadd, 1) := ge_iadd (by decide +kernel)
theorem d_X12_isAsSeen_27 : decode prog_14_method_67_code 27 = .ok (.iaload, 1) := ge_iaload (by decide +kernel)
theorem d_X12_isAsSeen_28 : decode prog_14_method_67_code 28 = .ok (.iload_n 1, 1) := ge_iload_n_1 (by decide +kernel)
theorem d_X12_isAsSeen_29 : decode prog_14_method_67_code 29 = .ok (.if_icmp .ne 28, 3) := ge_if_icmp_ne (by decide +kernel)
theorem d_X12_isAsSeen_32 : decode prog_14_method_67_code 32 = .ok (.aload_n 0, 1) := ge_aload_n_0 (by decide +kernel)
theorem d_X12_isAsSeen_33 : decode prog_14_method_67_code 33 = .ok (.aload_n 0, 1) := ge_aload_n_0 (by decide +kernel)
theorem d_X12_isAsSeen_34 : decode prog_14_method_67_code 34 = .ok (.getfield 9, 3) := ge_getfield (by decide +kernel)
theorem d_X12_isAsSeen_37 : decode prog_14_method_67_code 37 = .ok (.bipush 63, 2) := ge_bipush (by decide +kernel)
theorem d_X12_isAsSeen_39 : decode prog_14_method_67_code 39 = .ok (.iload_n 3, 1) := ge_iload_n_3 (by decide +kernel)
theorem d_X12_isAsSeen_40 : decode prog_14_method_67_code 40 = .ok (.iadd, 1) := ge_iadd (by decide +kernel)
theorem d_X12_isAsSeen_41 : decode prog_14_method_67_code 41 = .ok (.iaload, 1) := ge_iaload (by decide +kernel)
theorem d_X12_isAsSeen_42 : decode prog_14_method_67_code 42 = .ok (.invokevirtual 148, 3) := ge_invokevirtual (by decide +kernel)
theorem d_X12_isAsSeen_45 : decode prog_14_method_67_code 45 = .ok (.aload_n 0, 1) := ge_aload_n_0 (by decide +kernel)
theorem d_X12_isAsSeen_46 : decode prog_14_method_67_code 46 = .ok (.getfield 9, 3) := ge_getfield (by decide +kernel)
theorem d_X12_isAsSeen_49 : decode prog_14_method_67_code 49 = .ok (.bipush 68, 2) := ge_bipush (by decide +kernel)
theorem d_X12_isAsSeen_51 : decode prog_14_method_67_code 51 = .ok (.iload_n 3, 1) := ge_iload_n_3 (by decide +kernel)
theorem d_X12_isAsSeen_52 : decode prog_14_method_67_code 52 = .ok (.iadd, 1) := ge_iadd (by decide +kernel)
theorem d_X12_isAsSeen_53 : decode prog_14_method_67_code 53 = .ok (.iaload, 1) := ge_iaload (by decide +kernel)
theorem d_X12_isAsSeen_54 : decode prog_14_method_67_code 54 = .ok (.if_icmp .ne 7, 3) := ge_if_icmp_ne (by decide +kernel)
theorem d_X12_isAsSeen_57 : decode prog_14_method_67_code 57 = .ok (.iconst 1, 1) := ge_iconst_1 (by decide +kernel)
theorem d_X12_isAsSeen_58 : decode prog_14_method_67_code 58 = .ok (.goto 4, 3) := ge_goto (by decide +kernel)
theorem d_X12_isAsSeen_61 : decode prog_14_method_67_code 61 = .ok (.iconst 0, 1) := ge_iconst_0 (by decide +kernel)
theorem d_X12_isAsSeen_62 : decode prog_14_method_67_code 62 = .ok (.istore_n 2, 1) := ge_istore_n_2 (by decide +kernel)
theorem d_X12_isAsSeen_63 : decode prog_14_method_67_code 63 = .ok (.iinc 3 1, 3) := ge_iinc (by decide +kernel)
theorem d_X12_isAsSeen_66 : decode prog_14_method_67_code 66 = .ok (.goto (-62), 3) := ge_goto (by decide +kernel)
theorem d_X12_isAsSeen_69 : decode prog_14_method_67_code 69 = .ok (.iload_n 2, 1) := ge_iload_n_2 (by decide +kernel)
theorem d_X12_isAsSeen_70 : decode prog_14_method_67_code 70 = .ok (.ireturn, 1) := ge_ireturn (by decide +kernel)
def f_X12_isAsSeen (a0 : Nat) (a1 : Int32) (μ : gm_M) : Option (Option Value × gm_M) := gm_loop (fun (s1 : Int32 × Int32 × gm_M) => gm_gR s1.2.2 [17] a0 1 (fun v2 => gm_aI s1.2.2 v2 (28 : Int32) (fun v3 => if v3 ≤ s1.2.1 then if s1.1 = 0 ∨ s1.1 = 1 then some (Sum.inr (some (.int s1.1), s1.2.2)) else none else if s1.1 = 0 then if s1.1 = 0 ∨ s1.1 = 1 then some (Sum.inr (some (.int s1.1), s1.2.2)) else none else gm_gR s1.2.2 [17] a0 1 (fun v4 => gm_aI s1.2.2 v4 ((73 : Int32) + s1.2.1) (fun v5 => gm_j (fun (s6 : Int32 × gm_M) => some (Sum.inl (s6.1, (s1.2.1 + (1 : Int32)), s6.2))) (fun j7 => gm_j (fun (s8 : gm_M) => j7 ((1 : Int32), s8)) (fun j9 => if v5 ≠ a1 then j9 s1.2.2 else gm_gR s1.2.2 [17] a0 1 (fun v10 => gm_aI s1.2.2 v10 ((63 : Int32) + s1.2.1) (fun v11 => if gm_tag s1.2.2 a0 = 17 then gm_bI (f_X12_holdsOf a0 v11 s1.2.2) (fun x13 m12 => gm_gR m12 [17] a0 1 (fun v14 => gm_aI m12 v14 ((68 : Int32) + s1.2.1) (fun v15 => if x13 ≠ v15 then j7 ((0 : Int32), m12) else j9 m12))) else none))))))))) 5000 ((1 : Int32), (0 : Int32), μ)
set_option maxHeartbeats 4000000 in
theorem c_X12_isAsSeen (a0 : Nat) (a1 : Int32) (μ : gm_M) : gm_Call ({ cls := "GumBubbleModel", name := "isAsSeen", desc := "(I)Z" } : Jvm.MethodName) prog_14_method_67_code 4 (some .boolean) 4 0 0 [.ref a0, .int a1] μ (f_X12_isAsSeen a0 a1 μ) := by
  refine gm_start PN_12 (Nat.le_of_ble_eq_true rfl) (fun res μe => ?_)
  unfold f_X12_isAsSeen
  show gm_A "GumBubbleModel" (gm_nm "isAsSeen") _ _ _ _ _ _ _ _ _ 0 [(0, .ref a0), (1, .int a1)] [] _ _
  refine gm_iconst (v := 1) d_X12_isAsSeen_0 (by decide) ?_
  refine gm_istore_n (L' := [(2, .int (1 : Int32)), (0, .ref a0), (1, .int a1)]) d_X12_isAsSeen_1 rfl (Nat.le_of_ble_eq_true rfl) rfl ?_
  refine gm_iconst (v := 0) d_X12_isAsSeen_2 (by decide) ?_
  refine gm_istore_n (L' := [(3, .int (0 : Int32)), (2, .int (1 : Int32)), (0, .ref a0), (1, .int a1)]) d_X12_isAsSeen_3 rfl (Nat.le_of_ble_eq_true rfl) rfl ?_
  refine gm_sub (L' := [(0, .ref a0), (1, .int a1), (2, .int (1 : Int32)), (3, .int (0 : Int32))]) [2, 3, 1, 0] rfl ?_
  refine gm_lp (S := Int32 × Int32 × gm_M) (fun _ => 0) (fun _ => 0) (fun s1 => s1.2.2) (fun s1 => [(0, .ref a0), (1, .int a1), (2, .int s1.1), (3, .int s1.2.1)]) (fun _ => []) (fun s1 => ?_) 5000 ((1 : Int32), (0 : Int32), μ)
  refine gm_iload_n d_X12_isAsSeen_4 rfl 3 rfl ?_
  refine gm_aload_n d_X12_isAsSeen_5 rfl 0 rfl ?_
  refine gm_getR F_12_s gw_890 d_X12_isAsSeen_6 (fun v2 _ => ?_)
  refine gm_bipush (v := 28) d_X12_isAsSeen_9 (by decide) ?_
  refine gm_iald d_X12_isAsSeen_11 (fun v3 _ => ?_)
  refine gm_icmp_ge (tgt := 69) d_X12_isAsSeen_12 (by decide) (fun h12 => ?_) (fun h12 => ?_)
  ·
    refine gm_iload_n d_X12_isAsSeen_69 rfl 2 rfl ?_
    exact gm_zret rfl d_X12_isAsSeen_70 (Nat.le_of_ble_eq_true rfl) (Nat.le_of_ble_eq_true rfl) (fun h => h)
  ·
    refine gm_iload_n d_X12_isAsSeen_15 rfl 2 rfl ?_
    refine gm_if_eq (tgt := 69) d_X12_isAsSeen_16 (by decide) (fun h16 => ?_) (fun h16 => ?_)
    ·
      refine gm_iload_n d_X12_isAsSeen_69 rfl 2 rfl ?_
      exact gm_zret rfl d_X12_isAsSeen_70 (Nat.le_of_ble_eq_true rfl) (Nat.le_of_ble_eq_true rfl) (fun h => h)
    ·
      refine gm_aload_n d_X12_isAsSeen_19 rfl 0 rfl ?_
      refine gm_getR F_12_s gw_890 d_X12_isAsSeen_20 (fun v4 _ => ?_)
      refine gm_bipush (v := 73) d_X12_isAsSeen_23 (by decide) ?_
      refine gm_iload_n d_X12_isAsSeen_25 rfl 3 rfl ?_
      refine gm_iadd d_X12_isAsSeen_26 ?_
      refine gm_iald d_X12_isAsSeen_27 (fun v5 _ => ?_)
      refine gm_iload_n d_X12_isAsSeen_28 rfl 1 rfl ?_
      refine gm_join (S := Int32 × gm_M) (pj := 62) (kj := 0) (nj := 0) (fun s6 => s6.2) (fun s6 => [(0, .ref a0), (1, .int a1), (2, .int s1.1), (3, .int s1.2.1)]) (fun s6 => [.int s6.1]) (fun s6 => ?_) (fun j7 hj7 => ?_)
      ·
        refine gm_istore_n (L' := [(2, .int s6.1), (0, .ref a0), (1, .int a1), (3, .int s1.2.1)]) d_X12_isAsSeen_62 rfl (Nat.le_of_ble_eq_true rfl) rfl ?_
        refine gm_iinc (v := s1.2.1 + (1 : Int32)) (L' := [(3, .int (s1.2.1 + (1 : Int32))), (2, .int s6.1), (0, .ref a0), (1, .int a1)]) d_X12_isAsSeen_63 3 rfl rfl (Nat.le_of_ble_eq_true rfl) rfl ?_
        refine gm_goto (tgt := 4) d_X12_isAsSeen_66 (by decide) ?_
        refine gm_sub (L' := [(0, .ref a0), (1, .int a1), (2, .int s6.1), (3, .int (s1.2.1 + (1 : Int32)))]) [2, 3, 1, 0] rfl ?_
        exact gm_back (fun h => h)
      ·
        refine gm_join (S := gm_M) (pj := 57) (kj := 0) (nj := 0) (fun s8 => s8) (fun s8 => [(0, .ref a0), (1, .int a1), (2, .int s1.1), (3, .int s1.2.1)]) (fun s8 => []) (fun s8 => ?_) (fun j9 hj9 => ?_)
        ·
          refine gm_iconst (v := 1) d_X12_isAsSeen_57 (by decide) ?_
          refine gm_goto (tgt := 62) d_X12_isAsSeen_58 (by decide) ?_
          exact hj7 ((1 : Int32), s8)
        ·
          refine gm_icmp_ne (tgt := 57) d_X12_isAsSeen_29 (by decide) (fun h29 => ?_) (fun h29 => ?_)
          ·
            exact hj9 s1.2.2
          ·
            refine gm_aload_n d_X12_isAsSeen_32 rfl 0 rfl ?_
            refine gm_aload_n d_X12_isAsSeen_33 rfl 0 rfl ?_
            refine gm_getR F_12_s gw_890 d_X12_isAsSeen_34 (fun v10 _ => ?_)
            refine gm_bipush (v := 63) d_X12_isAsSeen_37 (by decide) ?_
            refine gm_iload_n d_X12_isAsSeen_39 rfl 3 rfl ?_
            refine gm_iadd d_X12_isAsSeen_40 ?_
            refine gm_iald d_X12_isAsSeen_41 (fun v11 _ => ?_)
            refine gm_grd (fun g42 => ?_)
            refine gm_callV (k0 := 12) [.int v11] (c_X12_holdsOf a0 v11 s1.2.2) g42 rfl B_X12_holdsOf gw_1074 gs_45 rfl rfl rfl d_X12_isAsSeen_42 (gm_kI (fun x13 m12 => ?_))
            refine gm_aload_n d_X12_isAsSeen_45 rfl 0 rfl ?_
            refine gm_getR F_12_s gw_890 d_X12_isAsSeen_46 (fun v14 _ => ?_)
            refine gm_bipush (v := 68) d_X12_isAsSeen_49 (by decide) ?_
            refine gm_iload_n d_X12_isAsSeen_51 rfl 3 rfl ?_
            refine gm_iadd d_X12_isAsSeen_52 ?_
            refine gm_iald d_X12_isAsSeen_53 (fun v15 _ => ?_)
            refine gm_icmp_ne (tgt := 61) d_X12_isAsSeen_54 (by decide) (fun h54 => ?_) (fun h54 => ?_)
            ·
              refine gm_iconst (v := 0) d_X12_isAsSeen_61 (by decide) ?_
              exact hj7 ((0 : Int32), m12)
            ·
              exact hj9 m12
theorem d_X12_areAsSeen_0 : decode prog_14_method_68_code 0 = .ok (.iconst 1, 1) := ge_iconst_1 (by decide +kernel)
theorem d_X12_areAsSeen_1 : decode prog_14_method_68_code 1 = .ok (.istore_n 1, 1) := ge_istore_n_1 (by decide +kernel)
theorem d_X12_areAsSeen_2 : decode prog_14_method_68_code 2 = .ok (.iconst 0, 1) := ge_iconst_0 (by decide +kernel)
theorem d_X12_areAsSeen_3 : decode prog_14_method_68_code 3 = .ok (.istore_n 2, 1) := ge_istore_n_2 (by decide +kernel)
theorem d_X12_areAsSeen_4 : decode prog_14_method_68_code 4 = .ok (.iload_n 2, 1) := ge_iload_n_2 (by decide +kernel)
theorem d_X12_areAsSeen_5 : decode prog_14_method_68_code 5 = .ok (.bipush 20, 2) := ge_bipush (by decide +kernel)
theorem d_X12_areAsSeen_7 : decode prog_14_method_68_code 7 = .ok (.if_icmp .gt 23, 3) := ge_if_icmp_gt (by decide +kernel)
theorem d_X12_areAsSeen_10 : decode prog_14_method_68_code 10 = .ok (.iload_n 1, 1) := ge_iload_n_1 (by decide +kernel)
theorem d_X12_areAsSeen_11 : decode prog_14_method_68_code 11 = .ok (.ifCond .eq 19, 3) := ge_ifCond_eq (by decide +kernel)
theorem d_X12_areAsSeen_14 : decode prog_14_method_68_code 14 = .ok (.aload_n 0, 1) := ge_aload_n_0 (by decide +kernel)
theorem d_X12_areAsSeen_15 : decode prog_14_method_68_code 15 = .ok (.iload_n 2, 1) := ge_iload_n_2 (by decide +kernel)
theorem d_X12_areAsSeen_16 : decode prog_14_method_68_code 16 = .ok (.invokevirtual 234, 3) := ge_invokevirtual (by decide +kernel)
theorem d_X12_areAsSeen_19 : decode prog_14_method_68_code 19 = .ok (.istore_n 1, 1) := ge_istore_n_1 (by decide +kernel)
theorem d_X12_areAsSeen_20 : decode prog_14_method_68_code 20 = .ok (.aload_n 0, 1) := ge_aload_n_0 (by decide +kernel)
theorem d_X12_areAsSeen_21 : decode prog_14_method_68_code 21 = .ok (.invokevirtual 177, 3) := ge_invokevirtual (by decide +kernel)
theorem d_X12_areAsSeen_24 : decode prog_14_method_68_code 24 = .ok (.iinc 2 1, 3) := ge_iinc (by decide +kernel)
theorem d_X12_areAsSeen_27 : decode prog_14_method_68_code 27 = .ok (.goto (-23), 3) := ge_goto (by decide +kernel)
theorem d_X12_areAsSeen_30 : decode prog_14_method_68_code 30 = .ok (.aload_n 0, 1) := ge_aload_n_0 (by decide +kernel)
theorem d_X12_areAsSeen_31 : decode prog_14_method_68_code 31 = .ok (.invokevirtual 186, 3) := ge_invokevirtual (by decide +kernel)
theorem d_X12_areAsSeen_34 : decode prog_14_method_68_code 34 = .ok (.iload_n 1, 1) := ge_iload_n_1 (by decide +kernel)
theorem d_X12_areAsSeen_35 : decode prog_14_method_68_code 35 = .ok (.ireturn, 1) := ge_ireturn (by decide +kernel)
def f_X12_areAsSeen (a0 : Nat) (μ : gm_M) : Option (Option Value × gm_M) := gm_loop (fun (s1 : Int32 × Int32 × gm_M) => gm_j (fun (s2 : Unit) => if gm_tag s1.2.2 a0 = 17 then gm_bV (f_X12_goesBack a0 s1.2.2) (fun m4 => if s1.1 = 0 ∨ s1.1 = 1 then some (Sum.inr (some (.int s1.1), m4)) else none) else none) (fun j3 => if (20 : Int32) < s1.2.1 then j3 () else if s1.1 = 0 then j3 () else if gm_tag s1.2.2 a0 = 17 then gm_bI (f_X12_isAsSeen a0 s1.2.1 s1.2.2) (fun x7 m6 => if gm_tag m6 a0 = 17 then gm_bV (f_X12_goes a0 m6) (fun m8 => some (Sum.inl (x7, (s1.2.1 + (1 : Int32)), m8))) else none) else none)) 5000 ((1 : Int32), (0 : Int32), μ)
set_option maxHeartbeats 4000000 in
theorem c_X12_areAsSeen (a0 : Nat) (μ : gm_M) : gm_Call ({ cls := "GumBubbleModel", name := "areAsSeen", desc := "()Z" } : Jvm.MethodName) prog_14_method_68_code 3 (some .boolean) 5 0 0 [.ref a0] μ (f_X12_areAsSeen a0 μ) := by
  refine gm_start PN_12 (Nat.le_of_ble_eq_true rfl) (fun res μe => ?_)
  unfold f_X12_areAsSeen
  show gm_A "GumBubbleModel" (gm_nm "areAsSeen") _ _ _ _ _ _ _ _ _ 0 [(0, .ref a0)] [] _ _
  refine gm_iconst (v := 1) d_X12_areAsSeen_0 (by decide) ?_
  refine gm_istore_n (L' := [(1, .int (1 : Int32)), (0, .ref a0)]) d_X12_areAsSeen_1 rfl (Nat.le_of_ble_eq_true rfl) rfl ?_
  refine gm_iconst (v := 0) d_X12_areAsSeen_2 (by decide) ?_
  refine gm_istore_n (L' := [(2, .int (0 : Int32)), (1, .int (1 : Int32)), (0, .ref a0)]) d_X12_areAsSeen_3 rfl (Nat.le_of_ble_eq_true rfl) rfl ?_
  refine gm_sub (L' := [(0, .ref a0), (1, .int (1 : Int32)), (2, .int (0 : Int32))]) [2, 1, 0] rfl ?_
  refine gm_lp (S := Int32 × Int32 × gm_M) (fun _ => 0) (fun _ => 0) (fun s1 => s1.2.2) (fun s1 => [(0, .ref a0), (1, .int s1.1), (2, .int s1.2.1)]) (fun _ => []) (fun s1 => ?_) 5000 ((1 : Int32), (0 : Int32), μ)
  refine gm_iload_n d_X12_areAsSeen_4 rfl 2 rfl ?_
  refine gm_bipush (v := 20) d_X12_areAsSeen_5 (by decide) ?_
  refine gm_join (S := Unit) (pj := 30) (kj := 0) (nj := 0) (fun s2 => s1.2.2) (fun s2 => [(0, .ref a0), (1, .int s1.1), (2, .int s1.2.1)]) (fun s2 => []) (fun s2 => ?_) (fun j3 hj3 => ?_)
  ·
    refine gm_aload_n d_X12_areAsSeen_30 rfl 0 rfl ?_
    refine gm_grd (fun g31 => ?_)
    refine gm_callV (k0 := 12) [] (c_X12_goesBack a0 s1.2.2) g31 rfl B_X12_goesBack gw_1130 gs_53 rfl rfl rfl d_X12_areAsSeen_31 (gm_kV (fun m4 => ?_))
    refine gm_iload_n d_X12_areAsSeen_34 rfl 1 rfl ?_
    exact gm_zret rfl d_X12_areAsSeen_35 (Nat.le_of_ble_eq_true rfl) (Nat.le_of_ble_eq_true rfl) (fun h => h)
  ·
    refine gm_icmp_gt (tgt := 30) d_X12_areAsSeen_7 (by decide) (fun h7 => ?_) (fun h7 => ?_)
    ·
      exact hj3 ()
    ·
      refine gm_iload_n d_X12_areAsSeen_10 rfl 1 rfl ?_
      refine gm_if_eq (tgt := 30) d_X12_areAsSeen_11 (by decide) (fun h11 => ?_) (fun h11 => ?_)
      ·
        exact hj3 ()
      ·
        refine gm_aload_n d_X12_areAsSeen_14 rfl 0 rfl ?_
        refine gm_iload_n d_X12_areAsSeen_15 rfl 2 rfl ?_
        refine gm_grd (fun g16 => ?_)
        refine gm_callV (k0 := 12) [.int s1.2.1] (c_X12_isAsSeen a0 s1.2.1 s1.2.2) g16 rfl B_X12_isAsSeen gw_1234 gs_61 rfl rfl rfl d_X12_areAsSeen_16 (gm_kI (fun x7 m6 => ?_))
        refine gm_istore_n (L' := [(1, .int x7), (0, .ref a0), (2, .int s1.2.1)]) d_X12_areAsSeen_19 rfl (Nat.le_of_ble_eq_true rfl) rfl ?_
        refine gm_aload_n d_X12_areAsSeen_20 rfl 1 rfl ?_
        refine gm_grd (fun g21 => ?_)
        refine gm_callV (k0 := 12) [] (c_X12_goes a0 m6) g21 rfl B_X12_goes gw_1114 gs_50 rfl rfl rfl d_X12_areAsSeen_21 (gm_kV (fun m8 => ?_))
        refine gm_iinc (v := s1.2.1 + (1 : Int32)) (L' := [(2, .int (s1.2.1 + (1 : Int32))), (1, .int x7), (0, .ref a0)]) d_X12_areAsSeen_24 2 rfl rfl (Nat.le_of_ble_eq_true rfl) rfl ?_
        refine gm_goto (tgt := 4) d_X12_areAsSeen_27 (by decide) ?_
        refine gm_sub (L' := [(0, .ref a0), (1, .int x7), (2, .int (s1.2.1 + (1 : Int32)))]) [2, 1, 0] rfl ?_
        exact gm_back (fun h => h)
theorem d_X12_as_0 : decode prog_14_method_89_code 0 = .ok (.aload_n 0, 1) := ge_aload_n_0 (by decide +kernel)
theorem d_X12_as_1 : decode prog_14_method_89_code 1 = .ok (.iload_n 1, 1) := ge_iload_n_1 (by decide +kernel)
theorem d_X12_as_2 : decode prog_14_method_89_code 2 = .ok (.invokevirtual 154, 3) := ge_invokevirtual (by decide +kernel)
theorem d_X12_as_5 : decode prog_14_method_89_code 5 = .ok (.ifCond .eq 13, 3) := ge_ifCond_eq (by decide +kernel)
theorem d_X12_as_8 : decode prog_14_method_89_code 8 = .ok (.iload_n 2, 1) := ge_iload_n_2 (by decide +kernel)
theorem d_X12_as_9 : decode prog_14_method_89_code 9 = .ok (.iconst 0, 1) := ge_iconst_0 (by decide +kernel)
theorem d_X12_as_10 : decode prog_14_method_89_code 10 = .ok (.bipush 6, 2) := ge_bipush (by decide +kernel)
theorem d_X12_as_12 : decode prog_14_method_89_code 12 = .ok (.invokestatic 44, 3) := ge_invokestatic (by decide +kernel)
theorem d_X12_as_15 : decode prog_14_method_89_code 15 = .ok (.ifCond .ne 5, 3) := ge_ifCond_ne (by decide +kernel)
theorem d_X12_as_18 : decode prog_14_method_89_code 18 = .ok (.iconst (-1), 1) := ge_iconst_m1_ (by decide +kernel)
theorem d_X12_as_19 : decode prog_14_method_89_code 19 = .ok (.ireturn, 1) := ge_ireturn (by decide +kernel)
theorem d_X12_as_20 : decode prog_14_method_89_code 20 = .ok (.aload_n 0, 1) := ge_aload_n_0 (by decide +kernel)
theorem d_X12_as_21 : decode prog_14_method_89_code 21 = .ok (.getfield 9, 3) := ge_getfield (by decide +kernel)
theorem d_X12_as_24 : decode prog_14_method_89_code 24 = .ok (.bipush 33, 2) := ge_bipush (by decide +kernel)
theorem d_X12_as_26 : decode prog_14_method_89_code 26 = .ok (.iload_n 1, 1) := ge_iload_n_1 (by decide +kernel)
theorem d_X12_as_27 : decode prog_14_method_89_code 27 = .ok (.iadd, 1) := ge_iadd (by decide +kernel)
theorem d_X12_as_28 : decode prog_14_method_89_code 28 = .ok (.iaload, 1) := ge_iaload (by decide +kernel)
theorem d_X12_as_29 : decode prog_14_method_89_code 29 = .ok (.iload_n 2, 1) := ge_iload_n_2 (by decide +kernel)
theorem d_X12_as_30 : decode prog_14_method_89_code 30 = .ok (.invokestatic 259, 3) := ge_invokestatic (by decide +kernel)
theorem d_X12_as_33 : decode prog_14_method_89_code 33 = .ok (.ifCond .eq 15, 3) := ge_ifCond_eq (by decide +kernel)
theorem d_X12_as_36 : decode prog_14_method_89_code 36 = .ok (.aload_n 0, 1) := ge_aload_n_0 (by decide +kernel)
theorem d_X12_as_37 : decode prog_14_method_89_code 37 = .ok (.getfield 9, 3) := ge_getfield (by decide +kernel)
theorem d_X12_as_40 : decode prog_14_method_89_code 40 = .ok (.bipush 38, 2) := ge_bipush (by decide +kernel)
theorem d_X12_as_42 : decode prog_14_method_89_code 42 = .ok (.iload_n 1, 1) := ge_iload_n_1 (by decide +kernel)
theorem d_X12_as_43 : decode prog_14_method_89_code 43 = .ok (.iadd, 1) := ge_iadd (by decide +kernel)
theorem d_X12_as_44 : decode prog_14_method_89_code 44 = .ok (.iaload, 1) := ge_iaload (by decide +kernel)
theorem d_X12_as_45 : decode prog_14_method_89_code 45 = .ok (.goto 5, 3) := ge_goto (by decide +kernel)
theorem d_X12_as_48 : decode prog_14_method_89_code 48 = .ok (.bipush (-6), 2) := ge_bipush (by decide +kernel)
theorem d_X12_as_50 : decode prog_14_method_89_code 50 = .ok (.ireturn, 1) := ge_ireturn (by decide +kernel)
def f_X12_as (a0 : Nat) (a1 : Int32) (a2 : Int32) (μ : gm_M) : Option (Option Value × gm_M) := if gm_tag μ a0 = 17 then gm_bI (f_X12_isChild a0 a1 μ) (fun x2 m1 => if x2 = 0 then some (some (.int (-1 : Int32)), m1) else gm_bI (f_X12_in a2 (0 : Int32) (6 : Int32) m1) (fun x4 m3 => if x4 ≠ 0 then gm_gR m3 [17] a0 1 (fun v5 => gm_aI m3 v5 ((33 : Int32) + a1) (fun v6 => gm_bI (f_X12_isUnder v6 a2 m3) (fun x8 m7 => if x8 = 0 then some (some (.int (-6 : Int32)), m7) else gm_gR m7 [17] a0 1 (fun v9 => gm_aI m7 v9 ((38 : Int32) + a1) (fun v10 => some (some (.int v10), m7)))))) else some (some (.int (-1 : Int32)), m3))) else none
set_option maxHeartbeats 4000000 in
theorem c_X12_as (a0 : Nat) (a1 : Int32) (a2 : Int32) (μ : gm_M) : gm_Call ({ cls := "GumBubbleModel", name := "as", desc := "(II)I" } : Jvm.MethodName) prog_14_method_89_code 3 (some .int) 2 0 0 [.ref a0, .int a1, .int a2] μ (f_X12_as a0 a1 a2 μ) := by
  refine gm_start PN_12 (Nat.le_of_ble_eq_true rfl) (fun res μe => ?_)
  unfold f_X12_as
  show gm_A "GumBubbleModel" (gm_nm "as") _ _ _ _ _ _ _ _ _ 0 [(0, .ref a0), (1, .int a1), (2, .int a2)] [] _ _
  refine gm_aload_n d_X12_as_0 rfl 0 rfl ?_
  refine gm_iload_n d_X12_as_1 rfl 1 rfl ?_
  refine gm_grd (fun g2 => ?_)
  refine gm_callV (k0 := 12) [.int a1] (c_X12_isChild a0 a1 μ) g2 rfl B_X12_isChild gw_1047 gs_40 rfl rfl rfl d_X12_as_2 (gm_kI (fun x2 m1 => ?_))
  refine gm_if_eq (tgt := 18) d_X12_as_5 (by decide) (fun h5 => ?_) (fun h5 => ?_)
  ·
    refine gm_iconst (v := -1) d_X12_as_18 (by decide) ?_
    exact gm_iret rfl d_X12_as_19 (Nat.le_of_ble_eq_true rfl) (Nat.le_of_ble_eq_true rfl) (fun h => h)
  ·
    refine gm_iload_n d_X12_as_8 rfl 2 rfl ?_
    refine gm_iconst (v := 0) d_X12_as_9 (by decide) ?_
    refine gm_bipush (v := 6) d_X12_as_10 (by decide) ?_
    refine gm_callS [.int a2, .int (0 : Int32), .int (6 : Int32)] (c_X12_in a2 (0 : Int32) (6 : Int32) m1) B_X12_in gw_964 rfl rfl rfl d_X12_as_12 (gm_kI (fun x4 m3 => ?_))
    refine gm_if_ne (tgt := 20) d_X12_as_15 (by decide) (fun h15 => ?_) (fun h15 => ?_)
    ·
      refine gm_aload_n d_X12_as_20 rfl 0 rfl ?_
      refine gm_getR F_12_s gw_890 d_X12_as_21 (fun v5 _ => ?_)
      refine gm_bipush (v := 33) d_X12_as_24 (by decide) ?_
      refine gm_iload_n d_X12_as_26 rfl 1 rfl ?_
      refine gm_iadd d_X12_as_27 ?_
      refine gm_iald d_X12_as_28 (fun v6 _ => ?_)
      refine gm_iload_n d_X12_as_29 rfl 2 rfl ?_
      refine gm_callS [.int v6, .int a2] (c_X12_isUnder v6 a2 m3) B_X12_isUnder gw_1278 rfl rfl rfl d_X12_as_30 (gm_kI (fun x8 m7 => ?_))
      refine gm_if_eq (tgt := 48) d_X12_as_33 (by decide) (fun h33 => ?_) (fun h33 => ?_)
      ·
        refine gm_bipush (v := -6) d_X12_as_48 (by decide) ?_
        exact gm_iret rfl d_X12_as_50 (Nat.le_of_ble_eq_true rfl) (Nat.le_of_ble_eq_true rfl) (fun h => h)
      ·
        refine gm_aload_n d_X12_as_36 rfl 0 rfl ?_
        refine gm_getR F_12_s gw_890 d_X12_as_37 (fun v9 _ => ?_)
        refine gm_bipush (v := 38) d_X12_as_40 (by decide) ?_
        refine gm_iload_n d_X12_as_42 rfl 1 rfl ?_
        refine gm_iadd d_X12_as_43 ?_
        refine gm_iald d_X12_as_44 (fun v10 _ => ?_)
        refine gm_goto (tgt := 50) d_X12_as_45 (by decide) ?_
        exact gm_iret rfl d_X12_as_50 (Nat.le_of_ble_eq_true rfl) (Nat.le_of_ble_eq_true rfl) (fun h => h)
    ·
      refine gm_iconst (v := -1) d_X12_as_18 (by decide) ?_
      exact gm_iret rfl d_X12_as_19 (Nat.le_of_ble_eq_true rfl) (Nat.le_of_ble_eq_true rfl) (fun h => h)
theorem d_X12_lowest_0 : decode prog_14_method_53_code 0 = .ok (.lload_n 0, 1) := ge_lload_n_0 (by decide +kernel)
theorem d_X12_lowest_1 : decode prog_14_method_53_code 1 = .ok (.lstore 5, 2) := ge_lstore (by decide +kernel)
theorem d_X12_lowest_3 : decode prog_14_method_53_code 3 = .ok (.lload_n 2, 1) := ge_lload_n_2 (by decide +kernel)
theorem d_X12_lowest_4 : decode prog_14_method_53_code 4 = .ok (.lstore 7, 2) := ge_lstore (by decide +kernel)
theorem d_X12_lowest_6 : decode prog_14_method_53_code 6 = .ok (.lload 7, 2) := ge_lload (by decide +kernel)
theorem d_X12_lowest_8 : decode prog_14_method_53_code 8 = .ok (.lconst 0, 1) := ge_lconst_0 (by decide +kernel)
theorem d_X12_lowest_9 : decode prog_14_method_53_code 9 = .ok (.lcmp, 1) := ge_lcmp (by decide +kernel)
theorem d_X12_lowest_10 : decode prog_14_method_53_code 10 = .ok (.ifCond .eq 21, 3) := ge_ifCond_eq (by decide +kernel)
theorem d_X12_lowest_13 : decode prog_14_method_53_code 13 = .ok (.lload 5, 2) := ge_lload (by decide +kernel)
theorem d_X12_lowest_15 : decode prog_14_method_53_code 15 = .ok (.lload 7, 2) := ge_lload (by decide +kernel)
theorem d_X12_lowest_17 : decode prog_14_method_53_code 17 = .ok (.lrem, 1) := ge_lrem (by decide +kernel)
theorem d_X12_lowest_18 : decode prog_14_method_53_code 18 = .ok (.lstore 9, 2) := ge_lstore (by decide +kernel)
theorem d_X12_lowest_20 : decode prog_14_method_53_code 20 = .ok (.lload 7, 2) := ge_lload (by decide +kernel)
theorem d_X12_lowest_22 : decode prog_14_method_53_code 22 = .ok (.lstore 5, 2) := ge_lstore (by decide +kernel)
theorem d_X12_lowest_24 : decode prog_14_method_53_code 24 = .ok (.lload 9, 2) := ge_lload (by decide +kernel)
theorem d_X12_lowest_26 : decode prog_14_method_53_code 26 = .ok (.lstore 7, 2) := ge_lstore (by decide +kernel)
theorem d_X12_lowest_28 : decode prog_14_method_53_code 28 = .ok (.goto (-22), 3) := ge_goto (by decide +kernel)
theorem d_X12_lowest_31 : decode prog_14_method_53_code 31 = .ok (.iload 4, 2) := ge_iload (by decide +kernel)
theorem d_X12_lowest_33 : decode prog_14_method_53_code 33 = .ok (.ifCond .ne 7, 3) := ge_ifCond_ne (by decide +kernel)
theorem d_X12_lowest_36 : decode prog_14_method_53_code 36 = .ok (.lload_n 0, 1) := ge_lload_n_0 (by decide +kernel)
theorem d_X12_lowest_37 : decode prog_14_method_53_code 37 = .ok (.goto 4, 3) := ge_goto (by decide +kernel)
theorem d_X12_lowest_40 : decode prog_14_method_53_code 40 = .ok (.lload_n 2, 1) := ge_lload_n_2 (by decide +kernel)
theorem d_X12_lowest_41 : decode prog_14_method_53_code 41 = .ok (.lload 5, 2) := ge_lload (by decide +kernel)
theorem d_X12_lowest_43 : decode prog_14_method_53_code 43 = .ok (.ldiv, 1) := ge_ldiv (by decide +kernel)
theorem d_X12_lowest_44 : decode prog_14_method_53_code 44 = .ok (.lreturn, 1) := ge_lreturn (by decide +kernel)
def f_X12_lowest (a0 : Int64) (a1 : Int64) (a2 : Int32) (μ : gm_M) : Option (Option Value × gm_M) := gm_loop (fun (s1 : Int64 × Int64) => if (lg_cmp s1.2 (0 : Int64)) = 0 then gm_j (fun (s2 : Int64) => if s1.1 = 0 then none else some (Sum.inr (some (.long (s2 / s1.1)), μ))) (fun j3 => if a2 ≠ 0 then j3 a1 else j3 a0) else if s1.2 = 0 then none else some (Sum.inl (s1.2, (s1.1 - s1.1 / s1.2 * s1.2)))) 5000 (a0, a1)
set_option maxHeartbeats 4000000 in
theorem c_X12_lowest (a0 : Int64) (a1 : Int64) (a2 : Int32) (μ : gm_M) : gm_Call ({ cls := "GumBubbleModel", name := "lowest", desc := "(JJI)J" } : Jvm.MethodName) prog_14_method_53_code 11 (some .long) 0 0 0 [.long a0, .long a1, .int a2] μ (f_X12_lowest a0 a1 a2 μ) := by
  refine gm_start PN_12 (Nat.le_of_ble_eq_true rfl) (fun res μe => ?_)
  unfold f_X12_lowest
  show gm_A "GumBubbleModel" (gm_nm "lowest") _ _ _ _ _ _ _ _ _ 0 [(0, .long a0), (2, .long a1), (4, .int a2)] [] _ _
  refine gm_lload_n d_X12_lowest_0 rfl 0 rfl ?_
  refine gm_lstore (L' := [(5, .long a0), (0, .long a0), (2, .long a1), (4, .int a2)]) d_X12_lowest_1 (Nat.le_of_ble_eq_true rfl) rfl ?_
  refine gm_lload_n d_X12_lowest_3 rfl 2 rfl ?_
  refine gm_lstore (L' := [(7, .long a1), (5, .long a0), (0, .long a0), (2, .long a1), (4, .int a2)]) d_X12_lowest_4 (Nat.le_of_ble_eq_true rfl) rfl ?_
  refine gm_sub (L' := [(0, .long a0), (2, .long a1), (4, .int a2), (5, .long a0), (7, .long a1)]) [2, 3, 4, 1, 0] rfl ?_
  refine gm_lp (S := Int64 × Int64) (fun _ => 0) (fun _ => 0) (fun s1 => μ) (fun s1 => [(0, .long a0), (2, .long a1), (4, .int a2), (5, .long s1.1), (7, .long s1.2)]) (fun _ => []) (fun s1 => ?_) 5000 (a0, a1)
  refine gm_lload d_X12_lowest_6 4 rfl ?_
  refine gm_lconst (v := 0) d_X12_lowest_8 (by decide) ?_
  refine gm_lcmp d_X12_lowest_9 ?_
  refine gm_if_eq (tgt := 31) d_X12_lowest_10 (by decide) (fun h10 => ?_) (fun h10 => ?_)
  ·
    refine gm_iload d_X12_lowest_31 2 rfl ?_
    refine gm_join (S := Int64) (pj := 41) (kj := 0) (nj := 0) (fun s2 => μ) (fun s2 => [(0, .long a0), (2, .long a1), (4, .int a2), (5, .long s1.1), (7, .long s1.2)]) (fun s2 => [.long s2]) (fun s2 => ?_) (fun j3 hj3 => ?_)
    ·
      refine gm_lload d_X12_lowest_41 3 rfl ?_
      refine gm_ldiv d_X12_lowest_43 ?_
      exact gm_lret rfl d_X12_lowest_44 (Nat.le_of_ble_eq_true rfl) (Nat.le_of_ble_eq_true rfl) (fun h => h)
    ·
      refine gm_if_ne (tgt := 40) d_X12_lowest_33 (by decide) (fun h33 => ?_) (fun h33 => ?_)
      ·
        refine gm_lload_n d_X12_lowest_40 rfl 1 rfl ?_
        exact hj3 a1
      ·
        refine gm_lload_n d_X12_lowest_36 rfl 0 rfl ?_
        refine gm_goto (tgt := 41) d_X12_lowest_37 (by decide) ?_
        exact hj3 a0
  ·
    refine gm_lload d_X12_lowest_13 3 rfl ?_
    refine gm_lload d_X12_lowest_15 4 rfl ?_
    refine gm_lrem d_X12_lowest_17 ?_
    refine gm_lstore (L' := [(9, .long (s1.1 - s1.1 / s1.2 * s1.2)), (0, .long a0), (2, .long a1), (4, .int a2), (5, .long s1.1), (7, .long s1.2)]) d_X12_lowest_18 (Nat.le_of_ble_eq_true rfl) rfl ?_
    refine gm_lload d_X12_lowest_20 5 rfl ?_
    refine gm_lstore (L' := [(5, .long s1.2), (9, .long (s1.1 - s1.1 / s1.2 * s1.2)), (0, .long a0), (2, .long a1), (4, .int a2), (7, .long s1.2)]) d_X12_lowest_22 (Nat.le_of_ble_eq_true rfl) rfl ?_
    refine gm_lload d_X12_lowest_24 1 rfl ?_
    refine gm_lstore (L' := [(7, .long (s1.1 - s1.1 / s1.2 * s1.2)), (5, .long s1.2), (9, .long (s1.1 - s1.1 / s1.2 * s1.2)), (0, .long a0), (2, .long a1), (4, .int a2)]) d_X12_lowest_26 (Nat.le_of_ble_eq_true rfl) rfl ?_
    refine gm_goto (tgt := 6) d_X12_lowest_28 (by decide) ?_
    refine gm_sub (L' := [(0, .long a0), (2, .long a1), (4, .int a2), (5, .long s1.2), (7, .long (s1.1 - s1.1 / s1.2 * s1.2))]) [3, 4, 5, 1, 0] rfl ?_
    exact gm_back (fun h => h)
theorem d_X12_thin_0 : decode prog_14_method_54_code 0 = .ok (.iload_n 0, 1) := ge_iload_n_0 (by decide +kernel)
theorem d_X12_thin_1 : decode prog_14_method_54_code 1 = .ok (.iconst 5, 1) := ge_iconst_5 (by decide +kernel)
theorem d_X12_thin_2 : decode prog_14_method_54_code 2 = .ok (.iload_n 1, 1) := ge_iload_n_1 (by decide +kernel)
theorem d_X12_thin_3 : decode prog_14_method_54_code 3 = .ok (.imul, 1) := ge_imul (by decide +kernel)
theorem d_X12_thin_4 : decode prog_14_method_54_code 4 = .ok (.isub, 1) := ge_isub (by decide +kernel)
theorem d_X12_thin_5 : decode prog_14_method_54_code 5 = .ok (.invokestatic 142, 3) := ge_invokestatic (by decide +kernel)
theorem d_X12_thin_8 : decode prog_14_method_54_code 8 = .ok (.ireturn, 1) := ge_ireturn (by decide +kernel)
def f_X12_thin (a0 : Int32) (a1 : Int32) (μ : gm_M) : Option (Option Value × gm_M) := gm_bI (f_X12_above (a0 - ((5 : Int32) * a1)) μ) (fun x2 m1 => some (some (.int x2), m1))
set_option maxHeartbeats 4000000 in
theorem c_X12_thin (a0 : Int32) (a1 : Int32) (μ : gm_M) : gm_Call ({ cls := "GumBubbleModel", name := "thin", desc := "(II)I" } : Jvm.MethodName) prog_14_method_54_code 2 (some .int) 1 0 0 [.int a0, .int a1] μ (f_X12_thin a0 a1 μ) := by
  refine gm_start PN_12 (Nat.le_of_ble_eq_true rfl) (fun res μe => ?_)
  unfold f_X12_thin
  show gm_A "GumBubbleModel" (gm_nm "thin") _ _ _ _ _ _ _ _ _ 0 [(0, .int a0), (1, .int a1)] [] _ _
  refine gm_iload_n d_X12_thin_0 rfl 0 rfl ?_
  refine gm_iconst (v := 5) d_X12_thin_1 (by decide) ?_
  refine gm_iload_n d_X12_thin_2 rfl 1 rfl ?_
  refine gm_imul d_X12_thin_3 ?_
  refine gm_isub d_X12_thin_4 ?_
  refine gm_callS [.int (a0 - ((5 : Int32) * a1))] (c_X12_above (a0 - ((5 : Int32) * a1)) μ) B_X12_above gw_1067 rfl rfl rfl d_X12_thin_5 (gm_kI (fun x2 m1 => ?_))
  exact gm_iret rfl d_X12_thin_8 (Nat.le_of_ble_eq_true rfl) (Nat.le_of_ble_eq_true rfl) (fun h => h)
theorem d_X12_beats_0 : decode prog_14_method_59_code 0 = .ok (.aload_n 0, 1) := ge_aload_n_0 (by decide +kernel)
theorem d_X12_beats_1 : decode prog_14_method_59_code 1 = .ok (.iload_n 1, 1) := ge_iload_n_1 (by decide +kernel)
theorem d_X12_beats_2 : decode prog_14_method_59_code 2 = .ok (.invokevirtual 154, 3) := ge_invokevirtual (by decide +kernel)
theorem d_X12_beats_5 : decode prog_14_method_59_code 5 = .ok (.ifCond .eq 25, 3) := ge_ifCond_eq (by decide +kernel)
theorem d_X12_beats_8 : decode prog_14_method_59_code 8 = .ok (.aload_n 0, 1) := ge_aload_n_0 (by decide +kernel)
theorem d_X12_beats_9 : decode prog_14_method_59_code 9 = .ok (.iload_n 2, 1) := ge_iload_n_2 (by decide +kernel)
theorem d_X12_beats_10 : decode prog_14_method_59_code 10 = .ok (.invokevirtual 154, 3) := ge_invokevirtual (by decide +kernel)
theorem d_X12_beats_13 : decode prog_14_method_59_code 13 = .ok (.ifCond .eq 17, 3) := ge_ifCond_eq (by decide +kernel)
theorem d_X12_beats_16 : decode prog_14_method_59_code 16 = .ok (.iload_n 1, 1) := ge_iload_n_1 (by decide +kernel)
theorem d_X12_beats_17 : decode prog_14_method_59_code 17 = .ok (.iload_n 2, 1) := ge_iload_n_2 (by decide +kernel)
theorem d_X12_beats_18 : decode prog_14_method_59_code 18 = .ok (.if_icmp .eq 12, 3) := ge_if_icmp_eq (by decide +kernel)
theorem d_X12_beats_21 : decode prog_14_method_59_code 21 = .ok (.iload_n 3, 1) := ge_iload_n_3 (by decide +kernel)
theorem d_X12_beats_22 : decode prog_14_method_59_code 22 = .ok (.iconst 0, 1) := ge_iconst_0 (by decide +kernel)
theorem d_X12_beats_23 : decode prog_14_method_59_code 23 = .ok (.iconst 1, 1) := ge_iconst_1 (by decide +kernel)
theorem d_X12_beats_24 : decode prog_14_method_59_code 24 = .ok (.invokestatic 44, 3) := ge_invokestatic (by decide +kernel)
theorem d_X12_beats_27 : decode prog_14_method_59_code 27 = .ok (.ifCond .ne 7, 3) := ge_ifCond_ne (by decide +kernel)
theorem d_X12_beats_30 : decode prog_14_method_59_code 30 = .ok (.ldc2_w 207, 3) := ge_ldc2_w (by decide +kernel)
theorem d_X12_beats_33 : decode prog_14_method_59_code 33 = .ok (.lreturn, 1) := ge_lreturn (by decide +kernel)
theorem d_X12_beats_34 : decode prog_14_method_59_code 34 = .ok (.aload_n 0, 1) := ge_aload_n_0 (by decide +kernel)
theorem d_X12_beats_35 : decode prog_14_method_59_code 35 = .ok (.iload_n 1, 1) := ge_iload_n_1 (by decide +kernel)
theorem d_X12_beats_36 : decode prog_14_method_59_code 36 = .ok (.invokevirtual 148, 3) := ge_invokevirtual (by decide +kernel)
theorem d_X12_beats_39 : decode prog_14_method_59_code 39 = .ok (.istore 4, 2) := ge_istore (by decide +kernel)
theorem d_X12_beats_41 : decode prog_14_method_59_code 41 = .ok (.aload_n 0, 1) := ge_aload_n_0 (by decide +kernel)
theorem d_X12_beats_42 : decode prog_14_method_59_code 42 = .ok (.iload_n 2, 1) := ge_iload_n_2 (by decide +kernel)
theorem d_X12_beats_43 : decode prog_14_method_59_code 43 = .ok (.invokevirtual 148, 3) := ge_invokevirtual (by decide +kernel)
theorem d_X12_beats_46 : decode prog_14_method_59_code 46 = .ok (.istore 5, 2) := ge_istore (by decide +kernel)
theorem d_X12_beats_48 : decode prog_14_method_59_code 48 = .ok (.lconst 0, 1) := ge_lconst_0 (by decide +kernel)
theorem d_X12_beats_49 : decode prog_14_method_59_code 49 = .ok (.lstore 6, 2) := ge_lstore (by decide +kernel)
theorem d_X12_beats_51 : decode prog_14_method_59_code 51 = .ok (.iconst 0, 1) := ge_iconst_0 (by decide +kernel)
theorem d_X12_beats_52 : decode prog_14_method_59_code 52 = .ok (.istore 8, 2) := ge_istore (by decide +kernel)
theorem d_X12_beats_54 : decode prog_14_method_59_code 54 = .ok (.iload 8, 2) := ge_iload (by decide +kernel)
theorem d_X12_beats_56 : decode prog_14_method_59_code 56 = .ok (.bipush 10, 2) := ge_bipush (by decide +kernel)
theorem d_X12_beats_58 : decode prog_14_method_59_code 58 = .ok (.if_icmp .ge 52, 3) := ge_if_icmp_ge (by decide +kernel)
theorem d_X12_beats_61 : decode prog_14_method_59_code 61 = .ok (.iconst 0, 1) := ge_iconst_0 (by decide +kernel)
theorem d_X12_beats_62 : decode prog_14_method_59_code 62 = .ok (.istore 9, 2) := ge_istore (by decide +kernel)
theorem d_X12_beats_64 : decode prog_14_method_59_code 64 = .ok (.iload 9, 2) := ge_iload (by decide +kernel)
theorem d_X12_beats_66 : decode prog_14_method_59_code 66 = .ok (.bipush 10, 2) := ge_bipush (by decide +kernel)
theorem d_X12_beats_68 : decode prog_14_method_59_code 68 = .ok (.if_icmp .ge 36, 3) := ge_if_icmp_ge (by decide +kernel)
theorem d_X12_beats_71 : decode prog_14_method_59_code 71 = .ok (.lload 6, 2) := ge_lload (by decide +kernel)
theorem d_X12_beats_73 : decode prog_14_method_59_code 73 = .ok (.iload 4, 2) := ge_iload (by decide +kernel)
theorem d_X12_beats_75 : decode prog_14_method_59_code 75 = .ok (.iload 8, 2) := ge_iload (by decide +kernel)
theorem d_X12_beats_77 : decode prog_14_method_59_code 77 = .ok (.invokestatic 204, 3) := ge_invokestatic (by decide +kernel)
theorem d_X12_beats_80 : decode prog_14_method_59_code 80 = .ok (.iload 5, 2) := ge_iload (by decide +kernel)
theorem d_X12_beats_82 : decode prog_14_method_59_code 82 = .ok (.iload 9, 2) := ge_iload (by decide +kernel)
theorem d_X12_beats_84 : decode prog_14_method_59_code 84 = .ok (.invokestatic 204, 3) := ge_invokestatic (by decide +kernel)
theorem d_X12_beats_87 : decode prog_14_method_59_code 87 = .ok (.if_icmp .le 7, 3) := ge_if_icmp_le (by decide +kernel)
theorem d_X12_beats_90 : decode prog_14_method_59_code 90 = .ok (.lconst 1, 1) := ge_lconst_1 (by decide +kernel)
theorem d_X12_beats_91 : decode prog_14_method_59_code 91 = .ok (.goto 4, 3) := ge_goto (by decide +kernel)
theorem d_X12_beats_94 : decode prog_14_method_59_code 94 = .ok (.lconst 0, 1) := ge_lconst_0 (by decide +kernel)
theorem d_X12_beats_95 : decode prog_14_method_59_code 95 = .ok (.ladd, 1) := ge_ladd (by decide +kernel)
theorem d_X12_beats_96 : decode prog_14_method_59_code 96 = .ok (.lstore 6, 2) := ge_lstore (by decide +kernel)
theorem d_X12_beats_98 : decode prog_14_method_59_code 98 = .ok (.iinc 9 1, 3) := ge_iinc (by decide +kernel)
theorem d_X12_beats_101 : decode prog_14_method_59_code 101 = .ok (.goto (-37), 3) := ge_goto (by decide +kernel)
theorem d_X12_beats_104 : decode prog_14_method_59_code 104 = .ok (.iinc 8 1, 3) := ge_iinc (by decide +kernel)
theorem d_X12_beats_107 : decode prog_14_method_59_code 107 = .ok (.goto (-53), 3) := ge_goto (by decide +kernel)
theorem d_X12_beats_110 : decode prog_14_method_59_code 110 = .ok (.lload 6, 2) := ge_lload (by decide +kernel)
theorem d_X12_beats_112 : decode prog_14_method_59_code 112 = .ok (.ldc2_w 218, 3) := ge_ldc2_w (by decide +kernel)
theorem d_X12_beats_115 : decode prog_14_method_59_code 115 = .ok (.iload_n 3, 1) := ge_iload_n_3 (by decide +kernel)
theorem d_X12_beats_116 : decode prog_14_method_59_code 116 = .ok (.invokestatic 214, 3) := ge_invokestatic (by decide +kernel)
theorem d_X12_beats_119 : decode prog_14_method_59_code 119 = .ok (.lreturn, 1) := ge_lreturn (by decide +kernel)
def f_X12_beats (a0 : Nat) (a1 : Int32) (a2 : Int32) (a3 : Int32) (μ : gm_M) : Option (Option Value × gm_M) := if gm_tag μ a0 = 17 then gm_bI (f_X12_isChild a0 a1 μ) (fun x2 m1 => gm_j (fun (s3 : gm_M) => some (some (.long (-9223372036854775808 : Int64)), s3)) (fun j4 => if x2 = 0 then j4 m1 else if gm_tag m1 a0 = 17 then gm_bI (f_X12_isChild a0 a2 m1) (fun x6 m5 => if x6 = 0 then j4 m5 else if a1 = a2 then j4 m5 else gm_bI (f_X12_in a3 (0 : Int32) (1 : Int32) m5) (fun x8 m7 => if x8 ≠ 0 then if gm_tag m7 a0 = 17 then gm_bI (f_X12_holdsOf a0 a1 m7) (fun x10 m9 => if gm_tag m9 a0 = 17 then gm_bI (f_X12_holdsOf a0 a2 m9) (fun x12 m11 => gm_loop (fun (s13 : Int64 × Int32 × gm_M) => if (10 : Int32) ≤ s13.2.1 then gm_bL (f_X12_lowest s13.1 (100 : Int64) a3 s13.2.2) (fun x15 m14 => some (Sum.inr (some (.long x15), m14))) else gm_loop (fun (s16 : Int64 × Int32 × gm_M) => if (10 : Int32) ≤ s16.2.1 then some (Sum.inr (Sum.inl (s16.1, (s13.2.1 + (1 : Int32)), s16.2.2))) else gm_bI (f_X12_thin x10 s13.2.1 s16.2.2) (fun x18 m17 => gm_bI (f_X12_thin x12 s16.2.1 m17) (fun x20 m19 => gm_j (fun (s21 : Int64) => some (Sum.inl ((s16.1 + s21), (s16.2.1 + (1 : Int32)), m19))) (fun j22 => if x18 ≤ x20 then j22 (0 : Int64) else j22 (1 : Int64))))) 5000 (s13.1, (0 : Int32), s13.2.2)) 5000 ((0 : Int64), (0 : Int32), m11)) else none) else none else j4 m7)) else none)) else none
set_option maxHeartbeats 4000000 in
theorem c_X12_beats (a0 : Nat) (a1 : Int32) (a2 : Int32) (a3 : Int32) (μ : gm_M) : gm_Call ({ cls := "GumBubbleModel", name := "beats", desc := "(III)J" } : Jvm.MethodName) prog_14_method_59_code 10 (some .long) 4 0 0 [.ref a0, .int a1, .int a2, .int a3] μ (f_X12_beats a0 a1 a2 a3 μ) := by
  refine gm_start PN_12 (Nat.le_of_ble_eq_true rfl) (fun res μe => ?_)
  unfold f_X12_beats
  show gm_A "GumBubbleModel" (gm_nm "beats") _ _ _ _ _ _ _ _ _ 0 [(0, .ref a0), (1, .int a1), (2, .int a2), (3, .int a3)] [] _ _
  refine gm_aload_n d_X12_beats_0 rfl 0 rfl ?_
  refine gm_iload_n d_X12_beats_1 rfl 1 rfl ?_
  refine gm_grd (fun g2 => ?_)
  refine gm_callV (k0 := 12) [.int a1] (c_X12_isChild a0 a1 μ) g2 rfl B_X12_isChild gw_1047 gs_40 rfl rfl rfl d_X12_beats_2 (gm_kI (fun x2 m1 => ?_))
  refine gm_join (S := gm_M) (pj := 30) (kj := 0) (nj := 0) (fun s3 => s3) (fun s3 => [(0, .ref a0), (1, .int a1), (2, .int a2), (3, .int a3)]) (fun s3 => []) (fun s3 => ?_) (fun j4 hj4 => ?_)
  ·
    refine gm_ldc2 (v := -9223372036854775808) gw_1170 d_X12_beats_30 ?_
    exact gm_lret rfl d_X12_beats_33 (Nat.le_of_ble_eq_true rfl) (Nat.le_of_ble_eq_true rfl) (fun h => h)
  ·
    refine gm_if_eq (tgt := 30) d_X12_beats_5 (by decide) (fun h5 => ?_) (fun h5 => ?_)
    ·
      exact hj4 m1
    ·
      refine gm_aload_n d_X12_beats_8 rfl 0 rfl ?_
      refine gm_iload_n d_X12_beats_9 rfl 2 rfl ?_
      refine gm_grd (fun g10 => ?_)
      refine gm_callV (k0 := 12) [.int a2] (c_X12_isChild a0 a2 m1) g10 rfl B_X12_isChild gw_1047 gs_40 rfl rfl rfl d_X12_beats_10 (gm_kI (fun x6 m5 => ?_))
      refine gm_if_eq (tgt := 30) d_X12_beats_13 (by decide) (fun h13 => ?_) (fun h13 => ?_)
      ·
        exact hj4 m5
      ·
        refine gm_iload_n d_X12_beats_16 rfl 1 rfl ?_
        refine gm_iload_n d_X12_beats_17 rfl 2 rfl ?_
        refine gm_icmp_eq (tgt := 30) d_X12_beats_18 (by decide) (fun h18 => ?_) (fun h18 => ?_)
        ·
          exact hj4 m5
        ·
          refine gm_iload_n d_X12_beats_21 rfl 3 rfl ?_
          refine gm_iconst (v := 0) d_X12_beats_22 (by decide) ?_
          refine gm_iconst (v := 1) d_X12_beats_23 (by decide) ?_
          refine gm_callS [.int a3, .int (0 : Int32), .int (1 : Int32)] (c_X12_in a3 (0 : Int32) (1 : Int32) m5) B_X12_in gw_964 rfl rfl rfl d_X12_beats_24 (gm_kI (fun x8 m7 => ?_))
          refine gm_if_ne (tgt := 34) d_X12_beats_27 (by decide) (fun h27 => ?_) (fun h27 => ?_)
          ·
            refine gm_aload_n d_X12_beats_34 rfl 0 rfl ?_
            refine gm_iload_n d_X12_beats_35 rfl 1 rfl ?_
            refine gm_grd (fun g36 => ?_)
            refine gm_callV (k0 := 12) [.int a1] (c_X12_holdsOf a0 a1 m7) g36 rfl B_X12_holdsOf gw_1074 gs_45 rfl rfl rfl d_X12_beats_36 (gm_kI (fun x10 m9 => ?_))
            refine gm_istore (L' := [(4, .int x10), (0, .ref a0), (1, .int a1), (2, .int a2), (3, .int a3)]) d_X12_beats_39 (Nat.le_of_ble_eq_true rfl) rfl ?_
            refine gm_aload_n d_X12_beats_41 rfl 1 rfl ?_
            refine gm_iload_n d_X12_beats_42 rfl 3 rfl ?_
            refine gm_grd (fun g43 => ?_)
            refine gm_callV (k0 := 12) [.int a2] (c_X12_holdsOf a0 a2 m9) g43 rfl B_X12_holdsOf gw_1074 gs_45 rfl rfl rfl d_X12_beats_43 (gm_kI (fun x12 m11 => ?_))
            refine gm_istore (L' := [(5, .int x12), (4, .int x10), (0, .ref a0), (1, .int a1), (2, .int a2), (3, .int a3)]) d_X12_beats_46 (Nat.le_of_ble_eq_true rfl) rfl ?_
            refine gm_lconst (v := 0) d_X12_beats_48 (by decide) ?_
            refine gm_lstore (L' := [(6, .long (0 : Int64)), (5, .int x12), (4, .int x10), (0, .ref a0), (1, .int a1), (2, .int a2), (3, .int a3)]) d_X12_beats_49 (Nat.le_of_ble_eq_true rfl) rfl ?_
            refine gm_iconst (v := 0) d_X12_beats_51 (by decide) ?_
            refine gm_istore (L' := [(8, .int (0 : Int32)), (6, .long (0 : Int64)), (5, .int x12), (4, .int x10), (0, .ref a0), (1, .int a1), (2, .int a2), (3, .int a3)]) d_X12_beats_52 (Nat.le_of_ble_eq_true rfl) rfl ?_
            refine gm_sub (L' := [(0, .ref a0), (1, .int a1), (2, .int a2), (3, .int a3), (4, .int x10), (5, .int x12), (6, .long (0 : Int64)), (8, .int (0 : Int32))]) [4, 5, 6, 7, 3, 2, 1, 0] rfl ?_
            refine gm_lp (S := Int64 × Int32 × gm_M) (fun _ => 0) (fun _ => 0) (fun s13 => s13.2.2) (fun s13 => [(0, .ref a0), (1, .int a1), (2, .int a2), (3, .int a3), (4, .int x10), (5, .int x12), (6, .long s13.1), (8, .int s13.2.1)]) (fun _ => []) (fun s13 => ?_) 5000 ((0 : Int64), (0 : Int32), m11)
            refine gm_iload d_X12_beats_54 7 rfl ?_
            refine gm_bipush (v := 10) d_X12_beats_56 (by decide) ?_
            refine gm_icmp_ge (tgt := 110) d_X12_beats_58 (by decide) (fun h58 => ?_) (fun h58 => ?_)
            ·
              refine gm_lload d_X12_beats_110 6 rfl ?_
              refine gm_ldc2 (v := 100) gw_1193 d_X12_beats_112 ?_
              refine gm_iload_n d_X12_beats_115 rfl 3 rfl ?_
              refine gm_callS [.long s13.1, .long (100 : Int64), .int a3] (c_X12_lowest s13.1 (100 : Int64) a3 s13.2.2) B_X12_lowest gw_1178 rfl rfl rfl d_X12_beats_116 (gm_kL (fun x15 m14 => ?_))
              exact gm_lret rfl d_X12_beats_119 (Nat.le_of_ble_eq_true rfl) (Nat.le_of_ble_eq_true rfl) (fun h => h)
            ·
              refine gm_iconst (v := 0) d_X12_beats_61 (by decide) ?_
              refine gm_istore (L' := [(9, .int (0 : Int32)), (0, .ref a0), (1, .int a1), (2, .int a2), (3, .int a3), (4, .int x10), (5, .int x12), (6, .long s13.1), (8, .int s13.2.1)]) d_X12_beats_62 (Nat.le_of_ble_eq_true rfl) rfl ?_
              refine gm_sub (L' := [(0, .ref a0), (1, .int a1), (2, .int a2), (3, .int a3), (4, .int x10), (5, .int x12), (6, .long s13.1), (8, .int s13.2.1), (9, .int (0 : Int32))]) [1, 2, 3, 4, 5, 6, 7, 8, 0] rfl ?_
              refine gm_lp (S := Int64 × Int32 × gm_M) (fun _ => 0) (fun _ => 0) (fun s16 => s16.2.2) (fun s16 => [(0, .ref a0), (1, .int a1), (2, .int a2), (3, .int a3), (4, .int x10), (5, .int x12), (6, .long s16.1), (8, .int s13.2.1), (9, .int s16.2.1)]) (fun _ => []) (fun s16 => ?_) 5000 (s13.1, (0 : Int32), s13.2.2)
              refine gm_iload d_X12_beats_64 8 rfl ?_
              refine gm_bipush (v := 10) d_X12_beats_66 (by decide) ?_
              refine gm_icmp_ge (tgt := 104) d_X12_beats_68 (by decide) (fun h68 => ?_) (fun h68 => ?_)
              ·
                refine gm_iinc (v := s13.2.1 + (1 : Int32)) (L' := [(8, .int (s13.2.1 + (1 : Int32))), (0, .ref a0), (1, .int a1), (2, .int a2), (3, .int a3), (4, .int x10), (5, .int x12), (6, .long s16.1), (9, .int s16.2.1)]) d_X12_beats_104 7 rfl rfl (Nat.le_of_ble_eq_true rfl) rfl ?_
                refine gm_goto (tgt := 54) d_X12_beats_107 (by decide) ?_
                refine gm_sub (L' := [(0, .ref a0), (1, .int a1), (2, .int a2), (3, .int a3), (4, .int x10), (5, .int x12), (6, .long s16.1), (8, .int (s13.2.1 + (1 : Int32)))]) [1, 2, 3, 4, 5, 6, 7, 0] rfl ?_
                exact gm_back (fun h => h)
              ·
                refine gm_lload d_X12_beats_71 6 rfl ?_
                refine gm_iload d_X12_beats_73 4 rfl ?_
                refine gm_iload d_X12_beats_75 7 rfl ?_
                refine gm_callS [.int x10, .int s13.2.1] (c_X12_thin x10 s13.2.1 s16.2.2) B_X12_thin gw_1174 rfl rfl rfl d_X12_beats_77 (gm_kI (fun x18 m17 => ?_))
                refine gm_iload d_X12_beats_80 5 rfl ?_
                refine gm_iload d_X12_beats_82 8 rfl ?_
                refine gm_callS [.int x12, .int s16.2.1] (c_X12_thin x12 s16.2.1 m17) B_X12_thin gw_1174 rfl rfl rfl d_X12_beats_84 (gm_kI (fun x20 m19 => ?_))
                refine gm_join (S := Int64) (pj := 95) (kj := 0) (nj := 0) (fun s21 => m19) (fun s21 => [(0, .ref a0), (1, .int a1), (2, .int a2), (3, .int a3), (4, .int x10), (5, .int x12), (6, .long s16.1), (8, .int s13.2.1), (9, .int s16.2.1)]) (fun s21 => [.long s21, .long s16.1]) (fun s21 => ?_) (fun j22 hj22 => ?_)
                ·
                  refine gm_ladd d_X12_beats_95 ?_
                  refine gm_lstore (L' := [(6, .long (s16.1 + s21)), (0, .ref a0), (1, .int a1), (2, .int a2), (3, .int a3), (4, .int x10), (5, .int x12), (8, .int s13.2.1), (9, .int s16.2.1)]) d_X12_beats_96 (Nat.le_of_ble_eq_true rfl) rfl ?_
                  refine gm_iinc (v := s16.2.1 + (1 : Int32)) (L' := [(9, .int (s16.2.1 + (1 : Int32))), (6, .long (s16.1 + s21)), (0, .ref a0), (1, .int a1), (2, .int a2), (3, .int a3), (4, .int x10), (5, .int x12), (8, .int s13.2.1)]) d_X12_beats_98 8 rfl rfl (Nat.le_of_ble_eq_true rfl) rfl ?_
                  refine gm_goto (tgt := 64) d_X12_beats_101 (by decide) ?_
                  refine gm_sub (L' := [(0, .ref a0), (1, .int a1), (2, .int a2), (3, .int a3), (4, .int x10), (5, .int x12), (6, .long (s16.1 + s21)), (8, .int s13.2.1), (9, .int (s16.2.1 + (1 : Int32)))]) [2, 3, 4, 5, 6, 7, 1, 8, 0] rfl ?_
                  exact gm_back (fun h => h)
                ·
                  refine gm_icmp_le (tgt := 94) d_X12_beats_87 (by decide) (fun h87 => ?_) (fun h87 => ?_)
                  ·
                    refine gm_lconst (v := 0) d_X12_beats_94 (by decide) ?_
                    exact hj22 (0 : Int64)
                  ·
                    refine gm_lconst (v := 1) d_X12_beats_90 (by decide) ?_
                    refine gm_goto (tgt := 95) d_X12_beats_91 (by decide) ?_
                    exact hj22 (1 : Int64)
          ·
            exact hj4 m7
theorem d_X12_blows_0 : decode prog_14_method_38_code 0 = .ok (.aload_n 0, 1) := ge_aload_n_0 (by decide +kernel)
theorem d_X12_blows_1 : decode prog_14_method_38_code 1 = .ok (.getfield 9, 3) := ge_getfield (by decide +kernel)
theorem d_X12_blows_4 : decode prog_14_method_38_code 4 = .ok (.bipush 16, 2) := ge_bipush (by decide +kernel)
theorem d_X12_blows_6 : decode prog_14_method_38_code 6 = .ok (.iload_n 1, 1) := ge_iload_n_1 (by decide +kernel)
theorem d_X12_blows_7 : decode prog_14_method_38_code 7 = .ok (.iadd, 1) := ge_iadd (by decide +kernel)
theorem d_X12_blows_8 : decode prog_14_method_38_code 8 = .ok (.dup2, 1) := ge_dup2 (by decide +kernel)
theorem d_X12_blows_9 : decode prog_14_method_38_code 9 = .ok (.iaload, 1) := ge_iaload (by decide +kernel)
theorem d_X12_blows_10 : decode prog_14_method_38_code 10 = .ok (.iload_n 2, 1) := ge_iload_n_2 (by decide +kernel)
theorem d_X12_blows_11 : decode prog_14_method_38_code 11 = .ok (.iadd, 1) := ge_iadd (by decide +kernel)
theorem d_X12_blows_12 : decode prog_14_method_38_code 12 = .ok (.iastore, 1) := ge_iastore (by decide +kernel)
theorem d_X12_blows_13 : decode prog_14_method_38_code 13 = .ok (.aload_n 0, 1) := ge_aload_n_0 (by decide +kernel)
theorem d_X12_blows_14 : decode prog_14_method_38_code 14 = .ok (.getfield 9, 3) := ge_getfield (by decide +kernel)
theorem d_X12_blows_17 : decode prog_14_method_38_code 17 = .ok (.bipush 16, 2) := ge_bipush (by decide +kernel)
theorem d_X12_blows_19 : decode prog_14_method_38_code 19 = .ok (.iload_n 1, 1) := ge_iload_n_1 (by decide +kernel)
theorem d_X12_blows_20 : decode prog_14_method_38_code 20 = .ok (.iadd, 1) := ge_iadd (by decide +kernel)
theorem d_X12_blows_21 : decode prog_14_method_38_code 21 = .ok (.iaload, 1) := ge_iaload (by decide +kernel)
theorem d_X12_blows_22 : decode prog_14_method_38_code 22 = .ok (.aload_n 0, 1) := ge_aload_n_0 (by decide +kernel)
theorem d_X12_blows_23 : decode prog_14_method_38_code 23 = .ok (.iload_n 1, 1) := ge_iload_n_1 (by decide +kernel)
theorem d_X12_blows_24 : decode prog_14_method_38_code 24 = .ok (.invokevirtual 148, 3) := ge_invokevirtual (by decide +kernel)
theorem d_X12_blows_27 : decode prog_14_method_38_code 27 = .ok (.if_icmp .gt 5, 3) := ge_if_icmp_gt (by decide +kernel)
theorem d_X12_blows_30 : decode prog_14_method_38_code 30 = .ok (.iconst 0, 1) := ge_iconst_0 (by decide +kernel)
theorem d_X12_blows_31 : decode prog_14_method_38_code 31 = .ok (.ireturn, 1) := ge_ireturn (by decide +kernel)
theorem d_X12_blows_32 : decode prog_14_method_38_code 32 = .ok (.aload_n 0, 1) := ge_aload_n_0 (by decide +kernel)
theorem d_X12_blows_33 : decode prog_14_method_38_code 33 = .ok (.getfield 9, 3) := ge_getfield (by decide +kernel)
theorem d_X12_blows_36 : decode prog_14_method_38_code 36 = .ok (.bipush 21, 2) := ge_bipush (by decide +kernel)
theorem d_X12_blows_38 : decode prog_14_method_38_code 38 = .ok (.iload_n 1, 1) := ge_iload_n_1 (by decide +kernel)
theorem d_X12_blows_39 : decode prog_14_method_38_code 39 = .ok (.iadd, 1) := ge_iadd (by decide +kernel)
theorem d_X12_blows_40 : decode prog_14_method_38_code 40 = .ok (.aload_n 0, 1) := ge_aload_n_0 (by decide +kernel)
theorem d_X12_blows_41 : decode prog_14_method_38_code 41 = .ok (.getfield 9, 3) := ge_getfield (by decide +kernel)
theorem d_X12_blows_44 : decode prog_14_method_38_code 44 = .ok (.bipush 21, 2) := ge_bipush (by decide +kernel)
theorem d_X12_blows_46 : decode prog_14_method_38_code 46 = .ok (.iload_n 1, 1) := ge_iload_n_1 (by decide +kernel)
theorem d_X12_blows_47 : decode prog_14_method_38_code 47 = .ok (.iadd, 1) := ge_iadd (by decide +kernel)
theorem d_X12_blows_48 : decode prog_14_method_38_code 48 = .ok (.iaload, 1) := ge_iaload (by decide +kernel)
theorem d_X12_blows_49 : decode prog_14_method_38_code 49 = .ok (.aload_n 0, 1) := ge_aload_n_0 (by decide +kernel)
theorem d_X12_blows_50 : decode prog_14_method_38_code 50 = .ok (.getfield 9, 3) := ge_getfield (by decide +kernel)
theorem d_X12_blows_53 : decode prog_14_method_38_code 53 = .ok (.bipush 16, 2) := ge_bipush (by decide +kernel)
theorem d_X12_blows_55 : decode prog_14_method_38_code 55 = .ok (.iload_n 1, 1) := ge_iload_n_1 (by decide +kernel)
theorem d_X12_blows_56 : decode prog_14_method_38_code 56 = .ok (.iadd, 1) := ge_iadd (by decide +kernel)
theorem d_X12_blows_57 : decode prog_14_method_38_code 57 = .ok (.iaload, 1) := ge_iaload (by decide +kernel)
theorem d_X12_blows_58 : decode prog_14_method_38_code 58 = .ok (.bipush 10, 2) := ge_bipush (by decide +kernel)
theorem d_X12_blows_60 : decode prog_14_method_38_code 60 = .ok (.idiv, 1) := ge_idiv (by decide +kernel)
theorem d_X12_blows_61 : decode prog_14_method_38_code 61 = .ok (.iadd, 1) := ge_iadd (by decide +kernel)
theorem d_X12_blows_62 : decode prog_14_method_38_code 62 = .ok (.iconst 0, 1) := ge_iconst_0 (by decide +kernel)
theorem d_X12_blows_63 : decode prog_14_method_38_code 63 = .ok (.sipush 9999, 3) := ge_sipush (by decide +kernel)
theorem d_X12_blows_66 : decode prog_14_method_38_code 66 = .ok (.invokestatic 138, 3) := ge_invokestatic (by decide +kernel)
theorem d_X12_blows_69 : decode prog_14_method_38_code 69 = .ok (.iastore, 1) := ge_iastore (by decide +kernel)
theorem d_X12_blows_70 : decode prog_14_method_38_code 70 = .ok (.aload_n 0, 1) := ge_aload_n_0 (by decide +kernel)
theorem d_X12_blows_71 : decode prog_14_method_38_code 71 = .ok (.getfield 9, 3) := ge_getfield (by decide +kernel)
theorem d_X12_blows_74 : decode prog_14_method_38_code 74 = .ok (.bipush 16, 2) := ge_bipush (by decide +kernel)
theorem d_X12_blows_76 : decode prog_14_method_38_code 76 = .ok (.iload_n 1, 1) := ge_iload_n_1 (by decide +kernel)
theorem d_X12_blows_77 : decode prog_14_method_38_code 77 = .ok (.iadd, 1) := ge_iadd (by decide +kernel)
theorem d_X12_blows_78 : decode prog_14_method_38_code 78 = .ok (.iconst 0, 1) := ge_iconst_0 (by decide +kernel)
theorem d_X12_blows_79 : decode prog_14_method_38_code 79 = .ok (.iastore, 1) := ge_iastore (by decide +kernel)
theorem d_X12_blows_80 : decode prog_14_method_38_code 80 = .ok (.iconst 1, 1) := ge_iconst_1 (by decide +kernel)
theorem d_X12_blows_81 : decode prog_14_method_38_code 81 = .ok (.ireturn, 1) := ge_ireturn (by decide +kernel)
def f_X12_blows (a0 : Nat) (a1 : Int32) (a2 : Int32) (μ : gm_M) : Option (Option Value × gm_M) := gm_gR μ [17] a0 1 (fun v1 => gm_aI μ v1 ((16 : Int32) + a1) (fun v2 => gm_sI μ v1 ((16 : Int32) + a1) (v2 + a2) (fun m3 => gm_gR m3 [17] a0 1 (fun v4 => gm_aI m3 v4 ((16 : Int32) + a1) (fun v5 => if gm_tag m3 a0 = 17 then gm_bI (f_X12_holdsOf a0 a1 m3) (fun x7 m6 => if x7 < v5 then gm_gR m6 [17] a0 1 (fun v8 => gm_gR m6 [17] a0 1 (fun v9 => gm_aI m6 v9 ((21 : Int32) + a1) (fun v10 => gm_gR m6 [17] a0 1 (fun v11 => gm_aI m6 v11 ((16 : Int32) + a1) (fun v12 => if (10 : Int32) = 0 then none else gm_bI (f_X12_within (v10 + (v12 / (10 : Int32))) (0 : Int32) (9999 : Int32) m6) (fun x14 m13 => gm_sI m13 v8 ((21 : Int32) + a1) x14 (fun m15 => gm_gR m15 [17] a0 1 (fun v16 => gm_sI m15 v16 ((16 : Int32) + a1) (0 : Int32) (fun m17 => if (1 : Int32) = 0 ∨ (1 : Int32) = 1 then some (some (.int (1 : Int32)), m17) else none))))))))) else if (0 : Int32) = 0 ∨ (0 : Int32) = 1 then some (some (.int (0 : Int32)), m6) else none) else none)))))
set_option maxHeartbeats 4000000 in
theorem c_X12_blows (a0 : Nat) (a1 : Int32) (a2 : Int32) (μ : gm_M) : gm_Call ({ cls := "GumBubbleModel", name := "blows", desc := "(II)Z" } : Jvm.MethodName) prog_14_method_38_code 3 (some .boolean) 4 0 0 [.ref a0, .int a1, .int a2] μ (f_X12_blows a0 a1 a2 μ) := by
  refine gm_start PN_12 (Nat.le_of_ble_eq_true rfl) (fun res μe => ?_)
  unfold f_X12_blows
  show gm_A "GumBubbleModel" (gm_nm "blows") _ _ _ _ _ _ _ _ _ 0 [(0, .ref a0), (1, .int a1), (2, .int a2)] [] _ _
  refine gm_aload_n d_X12_blows_0 rfl 0 rfl ?_
  refine gm_getR F_12_s gw_890 d_X12_blows_1 (fun v1 _ => ?_)
  refine gm_bipush (v := 16) d_X12_blows_4 (by decide) ?_
  refine gm_iload_n d_X12_blows_6 rfl 1 rfl ?_
  refine gm_iadd d_X12_blows_7 ?_
  refine gm_dup2 d_X12_blows_8 rfl rfl ?_
  refine gm_iald d_X12_blows_9 (fun v2 _ => ?_)
  refine gm_iload_n d_X12_blows_10 rfl 2 rfl ?_
  refine gm_iadd d_X12_blows_11 ?_
  refine gm_iast d_X12_blows_12 (fun m3 _ => ?_)
  refine gm_aload_n d_X12_blows_13 rfl 0 rfl ?_
  refine gm_getR F_12_s gw_890 d_X12_blows_14 (fun v4 _ => ?_)
  refine gm_bipush (v := 16) d_X12_blows_17 (by decide) ?_
  refine gm_iload_n d_X12_blows_19 rfl 1 rfl ?_
  refine gm_iadd d_X12_blows_20 ?_
  refine gm_iald d_X12_blows_21 (fun v5 _ => ?_)
  refine gm_aload_n d_X12_blows_22 rfl 0 rfl ?_
  refine gm_iload_n d_X12_blows_23 rfl 1 rfl ?_
  refine gm_grd (fun g24 => ?_)
  refine gm_callV (k0 := 12) [.int a1] (c_X12_holdsOf a0 a1 m3) g24 rfl B_X12_holdsOf gw_1074 gs_45 rfl rfl rfl d_X12_blows_24 (gm_kI (fun x7 m6 => ?_))
  refine gm_icmp_gt (tgt := 32) d_X12_blows_27 (by decide) (fun h27 => ?_) (fun h27 => ?_)
  ·
    refine gm_aload_n d_X12_blows_32 rfl 0 rfl ?_
    refine gm_getR F_12_s gw_890 d_X12_blows_33 (fun v8 _ => ?_)
    refine gm_bipush (v := 21) d_X12_blows_36 (by decide) ?_
    refine gm_iload_n d_X12_blows_38 rfl 1 rfl ?_
    refine gm_iadd d_X12_blows_39 ?_
    refine gm_aload_n d_X12_blows_40 rfl 0 rfl ?_
    refine gm_getR F_12_s gw_890 d_X12_blows_41 (fun v9 _ => ?_)
    refine gm_bipush (v := 21) d_X12_blows_44 (by decide) ?_
    refine gm_iload_n d_X12_blows_46 rfl 1 rfl ?_
    refine gm_iadd d_X12_blows_47 ?_
    refine gm_iald d_X12_blows_48 (fun v10 _ => ?_)
    refine gm_aload_n d_X12_blows_49 rfl 0 rfl ?_
    refine gm_getR F_12_s gw_890 d_X12_blows_50 (fun v11 _ => ?_)
    refine gm_bipush (v := 16) d_X12_blows_53 (by decide) ?_
    refine gm_iload_n d_X12_blows_55 rfl 1 rfl ?_
    refine gm_iadd d_X12_blows_56 ?_
    refine gm_iald d_X12_blows_57 (fun v12 _ => ?_)
    refine gm_bipush (v := 10) d_X12_blows_58 (by decide) ?_
    refine gm_idiv d_X12_blows_60 ?_
    refine gm_iadd d_X12_blows_61 ?_
    refine gm_iconst (v := 0) d_X12_blows_62 (by decide) ?_
    refine gm_sipush (v := 9999) d_X12_blows_63 (by decide) ?_
    refine gm_callS [.int (v10 + (v12 / (10 : Int32))), .int (0 : Int32), .int (9999 : Int32)] (c_X12_within (v10 + (v12 / (10 : Int32))) (0 : Int32) (9999 : Int32) m6) B_X12_within gw_1060 rfl rfl rfl d_X12_blows_66 (gm_kI (fun x14 m13 => ?_))
    refine gm_iast d_X12_blows_69 (fun m15 _ => ?_)
    refine gm_aload_n d_X12_blows_70 rfl 0 rfl ?_
    refine gm_getR F_12_s gw_890 d_X12_blows_71 (fun v16 _ => ?_)
    refine gm_bipush (v := 16) d_X12_blows_74 (by decide) ?_
    refine gm_iload_n d_X12_blows_76 rfl 1 rfl ?_
    refine gm_iadd d_X12_blows_77 ?_
    refine gm_iconst (v := 0) d_X12_blows_78 (by decide) ?_
    refine gm_iast d_X12_blows_79 (fun m17 _ => ?_)
    refine gm_iconst (v := 1) d_X12_blows_80 (by decide) ?_
    exact gm_zret rfl d_X12_blows_81 (Nat.le_of_ble_eq_true rfl) (Nat.le_of_ble_eq_true rfl) (fun h => h)
  ·
    refine gm_iconst (v := 0) d_X12_blows_30 (by decide) ?_
    exact gm_zret rfl d_X12_blows_31 (Nat.le_of_ble_eq_true rfl) (Nat.le_of_ble_eq_true rfl) (fun h => h)
theorem d_X12_blow_0 : decode prog_14_method_39_code 0 = .ok (.aload_n 0, 1) := ge_aload_n_0 (by decide +kernel)
theorem d_X12_blow_1 : decode prog_14_method_39_code 1 = .ok (.iload_n 1, 1) := ge_iload_n_1 (by decide +kernel)
theorem d_X12_blow_2 : decode prog_14_method_39_code 2 = .ok (.invokevirtual 154, 3) := ge_invokevirtual (by decide +kernel)
theorem d_X12_blow_5 : decode prog_14_method_39_code 5 = .ok (.ifCond .ne 5, 3) := ge_ifCond_ne (by decide +kernel)
theorem d_X12_blow_8 : decode prog_14_method_39_code 8 = .ok (.iconst (-1), 1) := ge_iconst_m1_ (by decide +kernel)
theorem d_X12_blow_9 : decode prog_14_method_39_code 9 = .ok (.ireturn, 1) := ge_ireturn (by decide +kernel)
theorem d_X12_blow_10 : decode prog_14_method_39_code 10 = .ok (.iload_n 2, 1) := ge_iload_n_2 (by decide +kernel)
theorem d_X12_blow_11 : decode prog_14_method_39_code 11 = .ok (.iconst 1, 1) := ge_iconst_1 (by decide +kernel)
theorem d_X12_blow_12 : decode prog_14_method_39_code 12 = .ok (.bipush 99, 2) := ge_bipush (by decide +kernel)
theorem d_X12_blow_14 : decode prog_14_method_39_code 14 = .ok (.invokestatic 44, 3) := ge_invokestatic (by decide +kernel)
theorem d_X12_blow_17 : decode prog_14_method_39_code 17 = .ok (.ifCond .ne 6, 3) := ge_ifCond_ne (by decide +kernel)
theorem d_X12_blow_20 : decode prog_14_method_39_code 20 = .ok (.bipush (-2), 2) := ge_bipush (by decide +kernel)
theorem d_X12_blow_22 : decode prog_14_method_39_code 22 = .ok (.ireturn, 1) := ge_ireturn (by decide +kernel)
theorem d_X12_blow_23 : decode prog_14_method_39_code 23 = .ok (.aload_n 0, 1) := ge_aload_n_0 (by decide +kernel)
theorem d_X12_blow_24 : decode prog_14_method_39_code 24 = .ok (.getfield 9, 3) := ge_getfield (by decide +kernel)
theorem d_X12_blow_27 : decode prog_14_method_39_code 27 = .ok (.iconst 1, 1) := ge_iconst_1 (by decide +kernel)
theorem d_X12_blow_28 : decode prog_14_method_39_code 28 = .ok (.iload_n 1, 1) := ge_iload_n_1 (by decide +kernel)
theorem d_X12_blow_29 : decode prog_14_method_39_code 29 = .ok (.iadd, 1) := ge_iadd (by decide +kernel)
theorem d_X12_blow_30 : decode prog_14_method_39_code 30 = .ok (.iaload, 1) := ge_iaload (by decide +kernel)
theorem d_X12_blow_31 : decode prog_14_method_39_code 31 = .ok (.ifCond .ne 6, 3) := ge_ifCond_ne (by decide +kernel)
theorem d_X12_blow_34 : decode prog_14_method_39_code 34 = .ok (.bipush (-3), 2) := ge_bipush (by decide +kernel)
theorem d_X12_blow_36 : decode prog_14_method_39_code 36 = .ok (.ireturn, 1) := ge_ireturn (by decide +kernel)
theorem d_X12_blow_37 : decode prog_14_method_39_code 37 = .ok (.aload_n 0, 1) := ge_aload_n_0 (by decide +kernel)
theorem d_X12_blow_38 : decode prog_14_method_39_code 38 = .ok (.iload_n 1, 1) := ge_iload_n_1 (by decide +kernel)
theorem d_X12_blow_39 : decode prog_14_method_39_code 39 = .ok (.iload_n 2, 1) := ge_iload_n_2 (by decide +kernel)
theorem d_X12_blow_40 : decode prog_14_method_39_code 40 = .ok (.invokevirtual 170, 3) := ge_invokevirtual (by decide +kernel)
theorem d_X12_blow_43 : decode prog_14_method_39_code 43 = .ok (.ifCond .eq 8, 3) := ge_ifCond_eq (by decide +kernel)
theorem d_X12_blow_46 : decode prog_14_method_39_code 46 = .ok (.bipush (-6), 2) := ge_bipush (by decide +kernel)
theorem d_X12_blow_48 : decode prog_14_method_39_code 48 = .ok (.goto 12, 3) := ge_goto (by decide +kernel)
theorem d_X12_blow_51 : decode prog_14_method_39_code 51 = .ok (.aload_n 0, 1) := ge_aload_n_0 (by decide +kernel)
theorem d_X12_blow_52 : decode prog_14_method_39_code 52 = .ok (.getfield 9, 3) := ge_getfield (by decide +kernel)
theorem d_X12_blow_55 : decode prog_14_method_39_code 55 = .ok (.bipush 16, 2) := ge_bipush (by decide +kernel)
theorem d_X12_blow_57 : decode prog_14_method_39_code 57 = .ok (.iload_n 1, 1) := ge_iload_n_1 (by decide +kernel)
theorem d_X12_blow_58 : decode prog_14_method_39_code 58 = .ok (.iadd, 1) := ge_iadd (by decide +kernel)
theorem d_X12_blow_59 : decode prog_14_method_39_code 59 = .ok (.iaload, 1) := ge_iaload (by decide +kernel)
theorem d_X12_blow_60 : decode prog_14_method_39_code 60 = .ok (.ireturn, 1) := ge_ireturn (by decide +kernel)
def f_X12_blow (a0 : Nat) (a1 : Int32) (a2 : Int32) (μ : gm_M) : Option (Option Value × gm_M) := if gm_tag μ a0 = 17 then gm_bI (f_X12_isChild a0 a1 μ) (fun x2 m1 => if x2 ≠ 0 then gm_bI (f_X12_in a2 (1 : Int32) (99 : Int32) m1) (fun x4 m3 => if x4 ≠ 0 then gm_gR m3 [17] a0 1 (fun v5 => gm_aI m3 v5 ((1 : Int32) + a1) (fun v6 => if v6 ≠ 0 then if gm_tag m3 a0 = 17 then gm_bI (f_X12_blows a0 a1 a2 m3) (fun x8 m7 => if x8 = 0 then gm_gR m7 [17] a0 1 (fun v9 => gm_aI m7 v9 ((16 : Int32) + a1) (fun v10 => some (some (.int v10), m7))) else some (some (.int (-6 : Int32)), m7)) else none else some (some (.int (-3 : Int32)), m3))) else some (some (.int (-2 : Int32)), m3)) else some (some (.int (-1 : Int32)), m1)) else none
set_option maxHeartbeats 4000000 in
theorem c_X12_blow (a0 : Nat) (a1 : Int32) (a2 : Int32) (μ : gm_M) : gm_Call ({ cls := "GumBubbleModel", name := "blow", desc := "(II)I" } : Jvm.MethodName) prog_14_method_39_code 3 (some .int) 5 0 0 [.ref a0, .int a1, .int a2] μ (f_X12_blow a0 a1 a2 μ) := by
  refine gm_start PN_12 (Nat.le_of_ble_eq_true rfl) (fun res μe => ?_)
  unfold f_X12_blow
  show gm_A "GumBubbleModel" (gm_nm "blow") _ _ _ _ _ _ _ _ _ 0 [(0, .ref a0), (1, .int a1), (2, .int a2)] [] _ _
  refine gm_aload_n d_X12_blow_0 rfl 0 rfl ?_
  refine gm_iload_n d_X12_blow_1 rfl 1 rfl ?_
  refine gm_grd (fun g2 => ?_)
  refine gm_callV (k0 := 12) [.int a1] (c_X12_isChild a0 a1 μ) g2 rfl B_X12_isChild gw_1047 gs_40 rfl rfl rfl d_X12_blow_2 (gm_kI (fun x2 m1 => ?_))
  refine gm_if_ne (tgt := 10) d_X12_blow_5 (by decide) (fun h5 => ?_) (fun h5 => ?_)
  ·
    refine gm_iload_n d_X12_blow_10 rfl 2 rfl ?_
    refine gm_iconst (v := 1) d_X12_blow_11 (by decide) ?_
    refine gm_bipush (v := 99) d_X12_blow_12 (by decide) ?_
    refine gm_callS [.int a2, .int (1 : Int32), .int (99 : Int32)] (c_X12_in a2 (1 : Int32) (99 : Int32) m1) B_X12_in gw_964 rfl rfl rfl d_X12_blow_14 (gm_kI (fun x4 m3 => ?_))
    refine gm_if_ne (tgt := 23) d_X12_blow_17 (by decide) (fun h17 => ?_) (fun h17 => ?_)
    ·
      refine gm_aload_n d_X12_blow_23 rfl 0 rfl ?_
      refine gm_getR F_12_s gw_890 d_X12_blow_24 (fun v5 _ => ?_)
      refine gm_iconst (v := 1) d_X12_blow_27 (by decide) ?_
      refine gm_iload_n d_X12_blow_28 rfl 1 rfl ?_
      refine gm_iadd d_X12_blow_29 ?_
      refine gm_iald d_X12_blow_30 (fun v6 _ => ?_)
      refine gm_if_ne (tgt := 37) d_X12_blow_31 (by decide) (fun h31 => ?_) (fun h31 => ?_)
      ·
        refine gm_aload_n d_X12_blow_37 rfl 0 rfl ?_
        refine gm_iload_n d_X12_blow_38 rfl 1 rfl ?_
        refine gm_iload_n d_X12_blow_39 rfl 2 rfl ?_
        refine gm_grd (fun g40 => ?_)
        refine gm_callV (k0 := 12) [.int a1, .int a2] (c_X12_blows a0 a1 a2 m3) g40 rfl B_X12_blows gw_1102 gs_48 rfl rfl rfl d_X12_blow_40 (gm_kI (fun x8 m7 => ?_))
        refine gm_if_eq (tgt := 51) d_X12_blow_43 (by decide) (fun h43 => ?_) (fun h43 => ?_)
        ·
          refine gm_aload_n d_X12_blow_51 rfl 0 rfl ?_
          refine gm_getR F_12_s gw_890 d_X12_blow_52 (fun v9 _ => ?_)
          refine gm_bipush (v := 16) d_X12_blow_55 (by decide) ?_
          refine gm_iload_n d_X12_blow_57 rfl 1 rfl ?_
          refine gm_iadd d_X12_blow_58 ?_
          refine gm_iald d_X12_blow_59 (fun v10 _ => ?_)
          exact gm_iret rfl d_X12_blow_60 (Nat.le_of_ble_eq_true rfl) (Nat.le_of_ble_eq_true rfl) (fun h => h)
        ·
          refine gm_bipush (v := -6) d_X12_blow_46 (by decide) ?_
          refine gm_goto (tgt := 60) d_X12_blow_48 (by decide) ?_
          exact gm_iret rfl d_X12_blow_60 (Nat.le_of_ble_eq_true rfl) (Nat.le_of_ble_eq_true rfl) (fun h => h)
      ·
        refine gm_bipush (v := -3) d_X12_blow_34 (by decide) ?_
        exact gm_iret rfl d_X12_blow_36 (Nat.le_of_ble_eq_true rfl) (Nat.le_of_ble_eq_true rfl) (fun h => h)
    ·
      refine gm_bipush (v := -2) d_X12_blow_20 (by decide) ?_
      exact gm_iret rfl d_X12_blow_22 (Nat.le_of_ble_eq_true rfl) (Nat.le_of_ble_eq_true rfl) (fun h => h)
  ·
    refine gm_iconst (v := -1) d_X12_blow_8 (by decide) ?_
    exact gm_iret rfl d_X12_blow_9 (Nat.le_of_ble_eq_true rfl) (Nat.le_of_ble_eq_true rfl) (fun h => h)
theorem d_X12_book_0 : decode prog_14_method_77_code 0 = .ok (.iload_n 1, 1) := ge_iload_n_1 (by decide +kernel)
theorem d_X12_book_1 : decode prog_14_method_77_code 1 = .ok (.iconst (-1), 1) := ge_iconst_m1_ (by decide +kernel)
theorem d_X12_book_2 : decode prog_14_method_77_code 2 = .ok (.if_icmp .ne 13, 3) := ge_if_icmp_ne (by decide +kernel)
theorem d_X12_book_5 : decode prog_14_method_77_code 5 = .ok (.aload_n 0, 1) := ge_aload_n_0 (by decide +kernel)
theorem d_X12_book_6 : decode prog_14_method_77_code 6 = .ok (.getfield 9, 3) := ge_getfield (by decide +kernel)
theorem d_X12_book_9 : decode prog_14_method_77_code 9 = .ok (.bipush 30, 2) := ge_bipush (by decide +kernel)
theorem d_X12_book_11 : decode prog_14_method_77_code 11 = .ok (.iconst 0, 1) := ge_iconst_0 (by decide +kernel)
theorem d_X12_book_12 : decode prog_14_method_77_code 12 = .ok (.iastore, 1) := ge_iastore (by decide +kernel)
theorem d_X12_book_13 : decode prog_14_method_77_code 13 = .ok (.iconst 0, 1) := ge_iconst_0 (by decide +kernel)
theorem d_X12_book_14 : decode prog_14_method_77_code 14 = .ok (.ireturn, 1) := ge_ireturn (by decide +kernel)
theorem d_X12_book_15 : decode prog_14_method_77_code 15 = .ok (.aload_n 0, 1) := ge_aload_n_0 (by decide +kernel)
theorem d_X12_book_16 : decode prog_14_method_77_code 16 = .ok (.iload_n 1, 1) := ge_iload_n_1 (by decide +kernel)
theorem d_X12_book_17 : decode prog_14_method_77_code 17 = .ok (.invokevirtual 154, 3) := ge_invokevirtual (by decide +kernel)
theorem d_X12_book_20 : decode prog_14_method_77_code 20 = .ok (.ifCond .ne 5, 3) := ge_ifCond_ne (by decide +kernel)
theorem d_X12_book_23 : decode prog_14_method_77_code 23 = .ok (.iconst (-1), 1) := ge_iconst_m1_ (by decide +kernel)
theorem d_X12_book_24 : decode prog_14_method_77_code 24 = .ok (.ireturn, 1) := ge_ireturn (by decide +kernel)
theorem d_X12_book_25 : decode prog_14_method_77_code 25 = .ok (.iload_n 2, 1) := ge_iload_n_2 (by decide +kernel)
theorem d_X12_book_26 : decode prog_14_method_77_code 26 = .ok (.iconst 0, 1) := ge_iconst_0 (by decide +kernel)
theorem d_X12_book_27 : decode prog_14_method_77_code 27 = .ok (.sipush 999, 3) := ge_sipush (by decide +kernel)
theorem d_X12_book_30 : decode prog_14_method_77_code 30 = .ok (.invokestatic 44, 3) := ge_invokestatic (by decide +kernel)
theorem d_X12_book_33 : decode prog_14_method_77_code 33 = .ok (.ifCond .ne 6, 3) := ge_ifCond_ne (by decide +kernel)
theorem d_X12_book_36 : decode prog_14_method_77_code 36 = .ok (.bipush (-2), 2) := ge_bipush (by decide +kernel)
theorem d_X12_book_38 : decode prog_14_method_77_code 38 = .ok (.ireturn, 1) := ge_ireturn (by decide +kernel)
theorem d_X12_book_39 : decode prog_14_method_77_code 39 = .ok (.aload_n 0, 1) := ge_aload_n_0 (by decide +kernel)
theorem d_X12_book_40 : decode prog_14_method_77_code 40 = .ok (.getfield 9, 3) := ge_getfield (by decide +kernel)
theorem d_X12_book_43 : decode prog_14_method_77_code 43 = .ok (.bipush 30, 2) := ge_bipush (by decide +kernel)
theorem d_X12_book_45 : decode prog_14_method_77_code 45 = .ok (.iaload, 1) := ge_iaload (by decide +kernel)
theorem d_X12_book_46 : decode prog_14_method_77_code 46 = .ok (.bipush 8, 2) := ge_bipush (by decide +kernel)
theorem d_X12_book_48 : decode prog_14_method_77_code 48 = .ok (.if_icmp .ne 6, 3) := ge_if_icmp_ne (by decide +kernel)
theorem d_X12_book_51 : decode prog_14_method_77_code 51 = .ok (.bipush (-4), 2) := ge_bipush (by decide +kernel)
theorem d_X12_book_53 : decode prog_14_method_77_code 53 = .ok (.ireturn, 1) := ge_ireturn (by decide +kernel)
theorem d_X12_book_54 : decode prog_14_method_77_code 54 = .ok (.aload_n 0, 1) := ge_aload_n_0 (by decide +kernel)
theorem d_X12_book_55 : decode prog_14_method_77_code 55 = .ok (.getfield 9, 3) := ge_getfield (by decide +kernel)
theorem d_X12_book_58 : decode prog_14_method_77_code 58 = .ok (.bipush 94, 2) := ge_bipush (by decide +kernel)
theorem d_X12_book_60 : decode prog_14_method_77_code 60 = .ok (.aload_n 0, 1) := ge_aload_n_0 (by decide +kernel)
theorem d_X12_book_61 : decode prog_14_method_77_code 61 = .ok (.getfield 9, 3) := ge_getfield (by decide +kernel)
theorem d_X12_book_64 : decode prog_14_method_77_code 64 = .ok (.bipush 30, 2) := ge_bipush (by decide +kernel)
theorem d_X12_book_66 : decode prog_14_method_77_code 66 = .ok (.iaload, 1) := ge_iaload (by decide +kernel)
theorem d_X12_book_67 : decode prog_14_method_77_code 67 = .ok (.iadd, 1) := ge_iadd (by decide +kernel)
theorem d_X12_book_68 : decode prog_14_method_77_code 68 = .ok (.iload_n 1, 1) := ge_iload_n_1 (by decide +kernel)
theorem d_X12_book_69 : decode prog_14_method_77_code 69 = .ok (.iastore, 1) := ge_iastore (by decide +kernel)
theorem d_X12_book_70 : decode prog_14_method_77_code 70 = .ok (.aload_n 0, 1) := ge_aload_n_0 (by decide +kernel)
theorem d_X12_book_71 : decode prog_14_method_77_code 71 = .ok (.getfield 9, 3) := ge_getfield (by decide +kernel)
theorem d_X12_book_74 : decode prog_14_method_77_code 74 = .ok (.bipush 102, 2) := ge_bipush (by decide +kernel)
theorem d_X12_book_76 : decode prog_14_method_77_code 76 = .ok (.aload_n 0, 1) := ge_aload_n_0 (by decide +kernel)
theorem d_X12_book_77 : decode prog_14_method_77_code 77 = .ok (.getfield 9, 3) := ge_getfield (by decide +kernel)
theorem d_X12_book_80 : decode prog_14_method_77_code 80 = .ok (.bipush 30, 2) := ge_bipush (by decide +kernel)
theorem d_X12_book_82 : decode prog_14_method_77_code 82 = .ok (.iaload, 1) := ge_iaload (by decide +kernel)
theorem d_X12_book_83 : decode prog_14_method_77_code 83 = .ok (.iadd, 1) := ge_iadd (by decide +kernel)
theorem d_X12_book_84 : decode prog_14_method_77_code 84 = .ok (.iload_n 2, 1) := ge_iload_n_2 (by decide +kernel)
theorem d_X12_book_85 : decode prog_14_method_77_code 85 = .ok (.iastore, 1) := ge_iastore (by decide +kernel)
theorem d_X12_book_86 : decode prog_14_method_77_code 86 = .ok (.aload_n 0, 1) := ge_aload_n_0 (by decide +kernel)
theorem d_X12_book_87 : decode prog_14_method_77_code 87 = .ok (.getfield 9, 3) := ge_getfield (by decide +kernel)
theorem d_X12_book_90 : decode prog_14_method_77_code 90 = .ok (.bipush 30, 2) := ge_bipush (by decide +kernel)
theorem d_X12_book_92 : decode prog_14_method_77_code 92 = .ok (.dup2, 1) := ge_dup2 (by decide +kernel)
theorem d_X12_book_93 : decode prog_14_method_77_code 93 = .ok (.iaload, 1) := ge_iaload (by decide +kernel)
theorem d_X12_book_94 : decode prog_14_method_77_code 94 = .ok (.iconst 1, 1) := ge_iconst_1 (by decide +kernel)
theorem d_X12_book_95 : decode prog_14_method_77_code 95 = .ok (.iadd, 1) := ge_iadd (by decide +kernel)
theorem d_X12_book_96 : decode prog_14_method_77_code 96 = .ok (.iastore, 1) := ge_iastore (by decide +kernel)
theorem d_X12_book_97 : decode prog_14_method_77_code 97 = .ok (.aload_n 0, 1) := ge_aload_n_0 (by decide +kernel)
theorem d_X12_book_98 : decode prog_14_method_77_code 98 = .ok (.getfield 9, 3) := ge_getfield (by decide +kernel)
theorem d_X12_book_101 : decode prog_14_method_77_code 101 = .ok (.bipush 30, 2) := ge_bipush (by decide +kernel)
theorem d_X12_book_103 : decode prog_14_method_77_code 103 = .ok (.iaload, 1) := ge_iaload (by decide +kernel)
theorem d_X12_book_104 : decode prog_14_method_77_code 104 = .ok (.ireturn, 1) := ge_ireturn (by decide +kernel)
def f_X12_book (a0 : Nat) (a1 : Int32) (a2 : Int32) (μ : gm_M) : Option (Option Value × gm_M) := if a1 ≠ (-1 : Int32) then if gm_tag μ a0 = 17 then gm_bI (f_X12_isChild a0 a1 μ) (fun x2 m1 => if x2 ≠ 0 then gm_bI (f_X12_in a2 (0 : Int32) (999 : Int32) m1) (fun x4 m3 => if x4 ≠ 0 then gm_gR m3 [17] a0 1 (fun v5 => gm_aI m3 v5 (30 : Int32) (fun v6 => if v6 ≠ (8 : Int32) then gm_gR m3 [17] a0 1 (fun v7 => gm_gR m3 [17] a0 1 (fun v8 => gm_aI m3 v8 (30 : Int32) (fun v9 => gm_sI m3 v7 ((94 : Int32) + v9) a1 (fun m10 => gm_gR m10 [17] a0 1 (fun v11 => gm_gR m10 [17] a0 1 (fun v12 => gm_aI m10 v12 (30 : Int32) (fun v13 => gm_sI m10 v11 ((102 : Int32) + v13) a2 (fun m14 => gm_gR m14 [17] a0 1 (fun v15 => gm_aI m14 v15 (30 : Int32) (fun v16 => gm_sI m14 v15 (30 : Int32) (v16 + (1 : Int32)) (fun m17 => gm_gR m17 [17] a0 1 (fun v18 => gm_aI m17 v18 (30 : Int32) (fun v19 => some (some (.int v19), m17)))))))))))))) else some (some (.int (-4 : Int32)), m3))) else some (some (.int (-2 : Int32)), m3)) else some (some (.int (-1 : Int32)), m1)) else none else gm_gR μ [17] a0 1 (fun v20 => gm_sI μ v20 (30 : Int32) (0 : Int32) (fun m21 => some (some (.int (0 : Int32)), m21)))
set_option maxHeartbeats 4000000 in
theorem c_X12_book (a0 : Nat) (a1 : Int32) (a2 : Int32) (μ : gm_M) : gm_Call ({ cls := "GumBubbleModel", name := "book", desc := "(II)I" } : Jvm.MethodName) prog_14_method_77_code 3 (some .int) 2 0 0 [.ref a0, .int a1, .int a2] μ (f_X12_book a0 a1 a2 μ) := by
  refine gm_start PN_12 (Nat.le_of_ble_eq_true rfl) (fun res μe => ?_)
  unfold f_X12_book
  show gm_A "GumBubbleModel" (gm_nm "book") _ _ _ _ _ _ _ _ _ 0 [(0, .ref a0), (1, .int a1), (2, .int a2)] [] _ _
  refine gm_iload_n d_X12_book_0 rfl 1 rfl ?_
  refine gm_iconst (v := -1) d_X12_book_1 (by decide) ?_
  refine gm_icmp_ne (tgt := 15) d_X12_book_2 (by decide) (fun h2 => ?_) (fun h2 => ?_)
  ·
    refine gm_aload_n d_X12_book_15 rfl 0 rfl ?_
    refine gm_iload_n d_X12_book_16 rfl 1 rfl ?_
    refine gm_grd (fun g17 => ?_)
    refine gm_callV (k0 := 12) [.int a1] (c_X12_isChild a0 a1 μ) g17 rfl B_X12_isChild gw_1047 gs_40 rfl rfl rfl d_X12_book_17 (gm_kI (fun x2 m1 => ?_))
    refine gm_if_ne (tgt := 25) d_X12_book_20 (by decide) (fun h20 => ?_) (fun h20 => ?_)
    ·
      refine gm_iload_n d_X12_book_25 rfl 2 rfl ?_
      refine gm_iconst (v := 0) d_X12_book_26 (by decide) ?_
      refine gm_sipush (v := 999) d_X12_book_27 (by decide) ?_
      refine gm_callS [.int a2, .int (0 : Int32), .int (999 : Int32)] (c_X12_in a2 (0 : Int32) (999 : Int32) m1) B_X12_in gw_964 rfl rfl rfl d_X12_book_30 (gm_kI (fun x4 m3 => ?_))
      refine gm_if_ne (tgt := 39) d_X12_book_33 (by decide) (fun h33 => ?_) (fun h33 => ?_)
      ·
        refine gm_aload_n d_X12_book_39 rfl 0 rfl ?_
        refine gm_getR F_12_s gw_890 d_X12_book_40 (fun v5 _ => ?_)
        refine gm_bipush (v := 30) d_X12_book_43 (by decide) ?_
        refine gm_iald d_X12_book_45 (fun v6 _ => ?_)
        refine gm_bipush (v := 8) d_X12_book_46 (by decide) ?_
        refine gm_icmp_ne (tgt := 54) d_X12_book_48 (by decide) (fun h48 => ?_) (fun h48 => ?_)
        ·
          refine gm_aload_n d_X12_book_54 rfl 0 rfl ?_
          refine gm_getR F_12_s gw_890 d_X12_book_55 (fun v7 _ => ?_)
          refine gm_bipush (v := 94) d_X12_book_58 (by decide) ?_
          refine gm_aload_n d_X12_book_60 rfl 0 rfl ?_
          refine gm_getR F_12_s gw_890 d_X12_book_61 (fun v8 _ => ?_)
          refine gm_bipush (v := 30) d_X12_book_64 (by decide) ?_
          refine gm_iald d_X12_book_66 (fun v9 _ => ?_)
          refine gm_iadd d_X12_book_67 ?_
          refine gm_iload_n d_X12_book_68 rfl 1 rfl ?_
          refine gm_iast d_X12_book_69 (fun m10 _ => ?_)
          refine gm_aload_n d_X12_book_70 rfl 0 rfl ?_
          refine gm_getR F_12_s gw_890 d_X12_book_71 (fun v11 _ => ?_)
          refine gm_bipush (v := 102) d_X12_book_74 (by decide) ?_
          refine gm_aload_n d_X12_book_76 rfl 0 rfl ?_
          refine gm_getR F_12_s gw_890 d_X12_book_77 (fun v12 _ => ?_)
          refine gm_bipush (v := 30) d_X12_book_80 (by decide) ?_
          refine gm_iald d_X12_book_82 (fun v13 _ => ?_)
          refine gm_iadd d_X12_book_83 ?_
          refine gm_iload_n d_X12_book_84 rfl 2 rfl ?_
          refine gm_iast d_X12_book_85 (fun m14 _ => ?_)
          refine gm_aload_n d_X12_book_86 rfl 0 rfl ?_
          refine gm_getR F_12_s gw_890 d_X12_book_87 (fun v15 _ => ?_)
          refine gm_bipush (v := 30) d_X12_book_90 (by decide) ?_
          refine gm_dup2 d_X12_book_92 rfl rfl ?_
          refine gm_iald d_X12_book_93 (fun v16 _ => ?_)
          refine gm_iconst (v := 1) d_X12_book_94 (by decide) ?_
          refine gm_iadd d_X12_book_95 ?_
          refine gm_iast d_X12_book_96 (fun m17 _ => ?_)
          refine gm_aload_n d_X12_book_97 rfl 0 rfl ?_
          refine gm_getR F_12_s gw_890 d_X12_book_98 (fun v18 _ => ?_)
          refine gm_bipush (v := 30) d_X12_book_101 (by decide) ?_
          refine gm_iald d_X12_book_103 (fun v19 _ => ?_)
          exact gm_iret rfl d_X12_book_104 (Nat.le_of_ble_eq_true rfl) (Nat.le_of_ble_eq_true rfl) (fun h => h)
        ·
          refine gm_bipush (v := -4) d_X12_book_51 (by decide) ?_
          exact gm_iret rfl d_X12_book_53 (Nat.le_of_ble_eq_true rfl) (Nat.le_of_ble_eq_true rfl) (fun h => h)
      ·
        refine gm_bipush (v := -2) d_X12_book_36 (by decide) ?_
        exact gm_iret rfl d_X12_book_38 (Nat.le_of_ble_eq_true rfl) (Nat.le_of_ble_eq_true rfl) (fun h => h)
    ·
      refine gm_iconst (v := -1) d_X12_book_23 (by decide) ?_
      exact gm_iret rfl d_X12_book_24 (Nat.le_of_ble_eq_true rfl) (Nat.le_of_ble_eq_true rfl) (fun h => h)
  ·
    refine gm_aload_n d_X12_book_5 rfl 0 rfl ?_
    refine gm_getR F_12_s gw_890 d_X12_book_6 (fun v20 _ => ?_)
    refine gm_bipush (v := 30) d_X12_book_9 (by decide) ?_
    refine gm_iconst (v := 0) d_X12_book_11 (by decide) ?_
    refine gm_iast d_X12_book_12 (fun m21 _ => ?_)
    refine gm_iconst (v := 0) d_X12_book_13 (by decide) ?_
    exact gm_iret rfl d_X12_book_14 (Nat.le_of_ble_eq_true rfl) (Nat.le_of_ble_eq_true rfl) (fun h => h)
theorem d_X12_slackOf_0 : decode prog_14_method_50_code 0 = .ok (.aload_n 0, 1) := ge_aload_n_0 (by decide +kernel)
theorem d_X12_slackOf_1 : decode prog_14_method_50_code 1 = .ok (.iload_n 1, 1) := ge_iload_n_1 (by decide +kernel)
theorem d_X12_slackOf_2 : decode prog_14_method_50_code 2 = .ok (.invokevirtual 148, 3) := ge_invokevirtual (by decide +kernel)
theorem d_X12_slackOf_5 : decode prog_14_method_50_code 5 = .ok (.aload_n 0, 1) := ge_aload_n_0 (by decide +kernel)
theorem d_X12_slackOf_6 : decode prog_14_method_50_code 6 = .ok (.getfield 9, 3) := ge_getfield (by decide +kernel)
theorem d_X12_slackOf_9 : decode prog_14_method_50_code 9 = .ok (.bipush 16, 2) := ge_bipush (by decide +kernel)
theorem d_X12_slackOf_11 : decode prog_14_method_50_code 11 = .ok (.iload_n 1, 1) := ge_iload_n_1 (by decide +kernel)
theorem d_X12_slackOf_12 : decode prog_14_method_50_code 12 = .ok (.iadd, 1) := ge_iadd (by decide +kernel)
theorem d_X12_slackOf_13 : decode prog_14_method_50_code 13 = .ok (.iaload, 1) := ge_iaload (by decide +kernel)
theorem d_X12_slackOf_14 : decode prog_14_method_50_code 14 = .ok (.isub, 1) := ge_isub (by decide +kernel)
theorem d_X12_slackOf_15 : decode prog_14_method_50_code 15 = .ok (.ireturn, 1) := ge_ireturn (by decide +kernel)
def f_X12_slackOf (a0 : Nat) (a1 : Int32) (μ : gm_M) : Option (Option Value × gm_M) := if gm_tag μ a0 = 17 then gm_bI (f_X12_holdsOf a0 a1 μ) (fun x2 m1 => gm_gR m1 [17] a0 1 (fun v3 => gm_aI m1 v3 ((16 : Int32) + a1) (fun v4 => some (some (.int (x2 - v4)), m1)))) else none
set_option maxHeartbeats 4000000 in
theorem c_X12_slackOf (a0 : Nat) (a1 : Int32) (μ : gm_M) : gm_Call ({ cls := "GumBubbleModel", name := "slackOf", desc := "(I)I" } : Jvm.MethodName) prog_14_method_50_code 2 (some .int) 4 0 0 [.ref a0, .int a1] μ (f_X12_slackOf a0 a1 μ) := by
  refine gm_start PN_12 (Nat.le_of_ble_eq_true rfl) (fun res μe => ?_)
  unfold f_X12_slackOf
  show gm_A "GumBubbleModel" (gm_nm "slackOf") _ _ _ _ _ _ _ _ _ 0 [(0, .ref a0), (1, .int a1)] [] _ _
  refine gm_aload_n d_X12_slackOf_0 rfl 0 rfl ?_
  refine gm_iload_n d_X12_slackOf_1 rfl 1 rfl ?_
  refine gm_grd (fun g2 => ?_)
  refine gm_callV (k0 := 12) [.int a1] (c_X12_holdsOf a0 a1 μ) g2 rfl B_X12_holdsOf gw_1074 gs_45 rfl rfl rfl d_X12_slackOf_2 (gm_kI (fun x2 m1 => ?_))
  refine gm_aload_n d_X12_slackOf_5 rfl 0 rfl ?_
  refine gm_getR F_12_s gw_890 d_X12_slackOf_6 (fun v3 _ => ?_)
  refine gm_bipush (v := 16) d_X12_slackOf_9 (by decide) ?_
  refine gm_iload_n d_X12_slackOf_11 rfl 1 rfl ?_
  refine gm_iadd d_X12_slackOf_12 ?_
  refine gm_iald d_X12_slackOf_13 (fun v4 _ => ?_)
  refine gm_isub d_X12_slackOf_14 ?_
  exact gm_iret rfl d_X12_slackOf_15 (Nat.le_of_ble_eq_true rfl) (Nat.le_of_ble_eq_true rfl) (fun h => h)
theorem d_X12_breaths_0 : decode prog_14_method_51_code 0 = .ok (.aload_n 0, 1) := ge_aload_n_0 (by decide +kernel)
theorem d_X12_breaths_1 : decode prog_14_method_51_code 1 = .ok (.iload_n 1, 1) := ge_iload_n_1 (by decide +kernel)
theorem d_X12_breaths_2 : decode prog_14_method_51_code 2 = .ok (.invokevirtual 154, 3) := ge_invokevirtual (by decide +kernel)
theorem d_X12_breaths_5 : decode prog_14_method_51_code 5 = .ok (.ifCond .ne 5, 3) := ge_ifCond_ne (by decide +kernel)
theorem d_X12_breaths_8 : decode prog_14_method_51_code 8 = .ok (.iconst (-1), 1) := ge_iconst_m1_ (by decide +kernel)
theorem d_X12_breaths_9 : decode prog_14_method_51_code 9 = .ok (.ireturn, 1) := ge_ireturn (by decide +kernel)
theorem d_X12_breaths_10 : decode prog_14_method_51_code 10 = .ok (.iload_n 2, 1) := ge_iload_n_2 (by decide +kernel)
theorem d_X12_breaths_11 : decode prog_14_method_51_code 11 = .ok (.iconst 1, 1) := ge_iconst_1 (by decide +kernel)
theorem d_X12_breaths_12 : decode prog_14_method_51_code 12 = .ok (.bipush 99, 2) := ge_bipush (by decide +kernel)
theorem d_X12_breaths_14 : decode prog_14_method_51_code 14 = .ok (.invokestatic 44, 3) := ge_invokestatic (by decide +kernel)
theorem d_X12_breaths_17 : decode prog_14_method_51_code 17 = .ok (.ifCond .eq 16, 3) := ge_ifCond_eq (by decide +kernel)
theorem d_X12_breaths_20 : decode prog_14_method_51_code 20 = .ok (.aload_n 0, 1) := ge_aload_n_0 (by decide +kernel)
theorem d_X12_breaths_21 : decode prog_14_method_51_code 21 = .ok (.iload_n 1, 1) := ge_iload_n_1 (by decide +kernel)
theorem d_X12_breaths_22 : decode prog_14_method_51_code 22 = .ok (.invokevirtual 201, 3) := ge_invokevirtual (by decide +kernel)
theorem d_X12_breaths_25 : decode prog_14_method_51_code 25 = .ok (.invokestatic 142, 3) := ge_invokestatic (by decide +kernel)
theorem d_X12_breaths_28 : decode prog_14_method_51_code 28 = .ok (.iload_n 2, 1) := ge_iload_n_2 (by decide +kernel)
theorem d_X12_breaths_29 : decode prog_14_method_51_code 29 = .ok (.idiv, 1) := ge_idiv (by decide +kernel)
theorem d_X12_breaths_30 : decode prog_14_method_51_code 30 = .ok (.goto 5, 3) := ge_goto (by decide +kernel)
theorem d_X12_breaths_33 : decode prog_14_method_51_code 33 = .ok (.bipush (-2), 2) := ge_bipush (by decide +kernel)
theorem d_X12_breaths_35 : decode prog_14_method_51_code 35 = .ok (.ireturn, 1) := ge_ireturn (by decide +kernel)
def f_X12_breaths (a0 : Nat) (a1 : Int32) (a2 : Int32) (μ : gm_M) : Option (Option Value × gm_M) := if gm_tag μ a0 = 17 then gm_bI (f_X12_isChild a0 a1 μ) (fun x2 m1 => if x2 ≠ 0 then gm_bI (f_X12_in a2 (1 : Int32) (99 : Int32) m1) (fun x4 m3 => if x4 = 0 then some (some (.int (-2 : Int32)), m3) else if gm_tag m3 a0 = 17 then gm_bI (f_X12_slackOf a0 a1 m3) (fun x6 m5 => gm_bI (f_X12_above x6 m5) (fun x8 m7 => if a2 = 0 then none else some (some (.int (x8 / a2)), m7))) else none) else some (some (.int (-1 : Int32)), m1)) else none
set_option maxHeartbeats 4000000 in
theorem c_X12_breaths (a0 : Nat) (a1 : Int32) (a2 : Int32) (μ : gm_M) : gm_Call ({ cls := "GumBubbleModel", name := "breaths", desc := "(II)I" } : Jvm.MethodName) prog_14_method_51_code 3 (some .int) 5 0 0 [.ref a0, .int a1, .int a2] μ (f_X12_breaths a0 a1 a2 μ) := by
  refine gm_start PN_12 (Nat.le_of_ble_eq_true rfl) (fun res μe => ?_)
  unfold f_X12_breaths
  show gm_A "GumBubbleModel" (gm_nm "breaths") _ _ _ _ _ _ _ _ _ 0 [(0, .ref a0), (1, .int a1), (2, .int a2)] [] _ _
  refine gm_aload_n d_X12_breaths_0 rfl 0 rfl ?_
  refine gm_iload_n d_X12_breaths_1 rfl 1 rfl ?_
  refine gm_grd (fun g2 => ?_)
  refine gm_callV (k0 := 12) [.int a1] (c_X12_isChild a0 a1 μ) g2 rfl B_X12_isChild gw_1047 gs_40 rfl rfl rfl d_X12_breaths_2 (gm_kI (fun x2 m1 => ?_))
  refine gm_if_ne (tgt := 10) d_X12_breaths_5 (by decide) (fun h5 => ?_) (fun h5 => ?_)
  ·
    refine gm_iload_n d_X12_breaths_10 rfl 2 rfl ?_
    refine gm_iconst (v := 1) d_X12_breaths_11 (by decide) ?_
    refine gm_bipush (v := 99) d_X12_breaths_12 (by decide) ?_
    refine gm_callS [.int a2, .int (1 : Int32), .int (99 : Int32)] (c_X12_in a2 (1 : Int32) (99 : Int32) m1) B_X12_in gw_964 rfl rfl rfl d_X12_breaths_14 (gm_kI (fun x4 m3 => ?_))
    refine gm_if_eq (tgt := 33) d_X12_breaths_17 (by decide) (fun h17 => ?_) (fun h17 => ?_)
    ·
      refine gm_bipush (v := -2) d_X12_breaths_33 (by decide) ?_
      exact gm_iret rfl d_X12_breaths_35 (Nat.le_of_ble_eq_true rfl) (Nat.le_of_ble_eq_true rfl) (fun h => h)
    ·
      refine gm_aload_n d_X12_breaths_20 rfl 0 rfl ?_
      refine gm_iload_n d_X12_breaths_21 rfl 1 rfl ?_
      refine gm_grd (fun g22 => ?_)
      refine gm_callV (k0 := 12) [.int a1] (c_X12_slackOf a0 a1 m3) g22 rfl B_X12_slackOf gw_1158 gs_56 rfl rfl rfl d_X12_breaths_22 (gm_kI (fun x6 m5 => ?_))
      refine gm_callS [.int x6] (c_X12_above x6 m5) B_X12_above gw_1067 rfl rfl rfl d_X12_breaths_25 (gm_kI (fun x8 m7 => ?_))
      refine gm_iload_n d_X12_breaths_28 rfl 2 rfl ?_
      refine gm_idiv d_X12_breaths_29 ?_
      refine gm_goto (tgt := 35) d_X12_breaths_30 (by decide) ?_
      exact gm_iret rfl d_X12_breaths_35 (Nat.le_of_ble_eq_true rfl) (Nat.le_of_ble_eq_true rfl) (fun h => h)
  ·
    refine gm_iconst (v := -1) d_X12_breaths_8 (by decide) ?_
    exact gm_iret rfl d_X12_breaths_9 (Nat.le_of_ble_eq_true rfl) (Nat.le_of_ble_eq_true rfl) (fun h => h)
theorem d_X12_bubbles_0 : decode prog_14_method_37_code 0 = .ok (.iconst 0, 1) := ge_iconst_0 (by decide +kernel)
theorem d_X12_bubbles_1 : decode prog_14_method_37_code 1 = .ok (.istore_n 1, 1) := ge_istore_n_1 (by decide +kernel)
theorem d_X12_bubbles_2 : decode prog_14_method_37_code 2 = .ok (.iconst 0, 1) := ge_iconst_0 (by decide +kernel)
theorem d_X12_bubbles_3 : decode prog_14_method_37_code 3 = .ok (.istore_n 2, 1) := ge_istore_n_2 (by decide +kernel)
theorem d_X12_bubbles_4 : decode prog_14_method_37_code 4 = .ok (.iload_n 2, 1) := ge_iload_n_2 (by decide +kernel)
theorem d_X12_bubbles_5 : decode prog_14_method_37_code 5 = .ok (.aload_n 0, 1) := ge_aload_n_0 (by decide +kernel)
theorem d_X12_bubbles_6 : decode prog_14_method_37_code 6 = .ok (.getfield 9, 3) := ge_getfield (by decide +kernel)
theorem d_X12_bubbles_9 : decode prog_14_method_37_code 9 = .ok (.bipush 26, 2) := ge_bipush (by decide +kernel)
theorem d_X12_bubbles_11 : decode prog_14_method_37_code 11 = .ok (.iaload, 1) := ge_iaload (by decide +kernel)
theorem d_X12_bubbles_12 : decode prog_14_method_37_code 12 = .ok (.if_icmp .ge 31, 3) := ge_if_icmp_ge (by decide +kernel)
theorem d_X12_bubbles_15 : decode prog_14_method_37_code 15 = .ok (.iload_n 1, 1) := ge_iload_n_1 (by decide +kernel)
theorem d_X12_bubbles_16 : decode prog_14_method_37_code 16 = .ok (.aload_n 0, 1) := ge_aload_n_0 (by decide +kernel)
theorem d_X12_bubbles_17 : decode prog_14_method_37_code 17 = .ok (.getfield 9, 3) := ge_getfield (by decide +kernel)
theorem d_X12_bubbles_20 : decode prog_14_method_37_code 20 = .ok (.bipush 16, 2) := ge_bipush (by decide +kernel)
theorem d_X12_bubbles_22 : decode prog_14_method_37_code 22 = .ok (.iload_n 2, 1) := ge_iload_n_2 (by decide +kernel)
theorem d_X12_bubbles_23 : decode prog_14_method_37_code 23 = .ok (.iadd, 1) := ge_iadd (by decide +kernel)
theorem d_X12_bubbles_24 : decode prog_14_method_37_code 24 = .ok (.iaload, 1) := ge_iaload (by decide +kernel)
theorem d_X12_bubbles_25 : decode prog_14_method_37_code 25 = .ok (.ifCond .le 9, 3) := ge_ifCond_le (by decide +kernel)
theorem d_X12_bubbles_28 : decode prog_14_method_37_code 28 = .ok (.iconst 1, 1) := ge_iconst_1 (by decide +kernel)
theorem d_X12_bubbles_29 : decode prog_14_method_37_code 29 = .ok (.iload_n 2, 1) := ge_iload_n_2 (by decide +kernel)
theorem d_X12_bubbles_30 : decode prog_14_method_37_code 30 = .ok (.ishl, 1) := ge_ishl (by decide +kernel)
theorem d_X12_bubbles_31 : decode prog_14_method_37_code 31 = .ok (.goto 4, 3) := ge_goto (by decide +kernel)
theorem d_X12_bubbles_34 : decode prog_14_method_37_code 34 = .ok (.iconst 0, 1) := ge_iconst_0 (by decide +kernel)
theorem d_X12_bubbles_35 : decode prog_14_method_37_code 35 = .ok (.ior, 1) := ge_ior (by decide +kernel)
theorem d_X12_bubbles_36 : decode prog_14_method_37_code 36 = .ok (.istore_n 1, 1) := ge_istore_n_1 (by decide +kernel)
theorem d_X12_bubbles_37 : decode prog_14_method_37_code 37 = .ok (.iinc 2 1, 3) := ge_iinc (by decide +kernel)
theorem d_X12_bubbles_40 : decode prog_14_method_37_code 40 = .ok (.goto (-36), 3) := ge_goto (by decide +kernel)
theorem d_X12_bubbles_43 : decode prog_14_method_37_code 43 = .ok (.iload_n 1, 1) := ge_iload_n_1 (by decide +kernel)
theorem d_X12_bubbles_44 : decode prog_14_method_37_code 44 = .ok (.ireturn, 1) := ge_ireturn (by decide +kernel)
def f_X12_bubbles (a0 : Nat) (μ : gm_M) : Option (Option Value × gm_M) := gm_loop (fun (s1 : Int32 × Int32) => gm_gR μ [17] a0 1 (fun v2 => gm_aI μ v2 (26 : Int32) (fun v3 => if v3 ≤ s1.2 then some (Sum.inr (some (.int s1.1), μ)) else gm_gR μ [17] a0 1 (fun v4 => gm_aI μ v4 ((16 : Int32) + s1.2) (fun v5 => gm_j (fun (s6 : Int32) => some (Sum.inl ((s1.1 ||| s6), (s1.2 + (1 : Int32))))) (fun j7 => if v5 ≤ 0 then j7 (0 : Int32) else j7 ((1 : Int32) <<< (s1.2 &&& 31)))))))) 5000 ((0 : Int32), (0 : Int32))
set_option maxHeartbeats 4000000 in
theorem c_X12_bubbles (a0 : Nat) (μ : gm_M) : gm_Call ({ cls := "GumBubbleModel", name := "bubbles", desc := "()I" } : Jvm.MethodName) prog_14_method_37_code 3 (some .int) 0 0 0 [.ref a0] μ (f_X12_bubbles a0 μ) := by
  refine gm_start PN_12 (Nat.le_of_ble_eq_true rfl) (fun res μe => ?_)
  unfold f_X12_bubbles
  show gm_A "GumBubbleModel" (gm_nm "bubbles") _ _ _ _ _ _ _ _ _ 0 [(0, .ref a0)] [] _ _
  refine gm_iconst (v := 0) d_X12_bubbles_0 (by decide) ?_
  refine gm_istore_n (L' := [(1, .int (0 : Int32)), (0, .ref a0)]) d_X12_bubbles_1 rfl (Nat.le_of_ble_eq_true rfl) rfl ?_
  refine gm_iconst (v := 0) d_X12_bubbles_2 (by decide) ?_
  refine gm_istore_n (L' := [(2, .int (0 : Int32)), (1, .int (0 : Int32)), (0, .ref a0)]) d_X12_bubbles_3 rfl (Nat.le_of_ble_eq_true rfl) rfl ?_
  refine gm_sub (L' := [(0, .ref a0), (1, .int (0 : Int32)), (2, .int (0 : Int32))]) [2, 1, 0] rfl ?_
  refine gm_lp (S := Int32 × Int32) (fun _ => 0) (fun _ => 0) (fun s1 => μ) (fun s1 => [(0, .ref a0), (1, .int s1.1), (2, .int s1.2)]) (fun _ => []) (fun s1 => ?_) 5000 ((0 : Int32), (0 : Int32))
  refine gm_iload_n d_X12_bubbles_4 rfl 2 rfl ?_
  refine gm_aload_n d_X12_bubbles_5 rfl 0 rfl ?_
  refine gm_getR F_12_s gw_890 d_X12_bubbles_6 (fun v2 _ => ?_)
  refine gm_bipush (v := 26) d_X12_bubbles_9 (by decide) ?_
  refine gm_iald d_X12_bubbles_11 (fun v3 _ => ?_)
  refine gm_icmp_ge (tgt := 43) d_X12_bubbles_12 (by decide) (fun h12 => ?_) (fun h12 => ?_)
  ·
    refine gm_iload_n d_X12_bubbles_43 rfl 1 rfl ?_
    exact gm_iret rfl d_X12_bubbles_44 (Nat.le_of_ble_eq_true rfl) (Nat.le_of_ble_eq_true rfl) (fun h => h)
  ·
    refine gm_iload_n d_X12_bubbles_15 rfl 1 rfl ?_
    refine gm_aload_n d_X12_bubbles_16 rfl 0 rfl ?_
    refine gm_getR F_12_s gw_890 d_X12_bubbles_17 (fun v4 _ => ?_)
    refine gm_bipush (v := 16) d_X12_bubbles_20 (by decide) ?_
    refine gm_iload_n d_X12_bubbles_22 rfl 2 rfl ?_
    refine gm_iadd d_X12_bubbles_23 ?_
    refine gm_iald d_X12_bubbles_24 (fun v5 _ => ?_)
    refine gm_join (S := Int32) (pj := 35) (kj := 0) (nj := 0) (fun s6 => μ) (fun s6 => [(0, .ref a0), (1, .int s1.1), (2, .int s1.2)]) (fun s6 => [.int s6, .int s1.1]) (fun s6 => ?_) (fun j7 hj7 => ?_)
    ·
      refine gm_ior d_X12_bubbles_35 ?_
      refine gm_istore_n (L' := [(1, .int (s1.1 ||| s6)), (0, .ref a0), (2, .int s1.2)]) d_X12_bubbles_36 rfl (Nat.le_of_ble_eq_true rfl) rfl ?_
      refine gm_iinc (v := s1.2 + (1 : Int32)) (L' := [(2, .int (s1.2 + (1 : Int32))), (1, .int (s1.1 ||| s6)), (0, .ref a0)]) d_X12_bubbles_37 2 rfl rfl (Nat.le_of_ble_eq_true rfl) rfl ?_
      refine gm_goto (tgt := 4) d_X12_bubbles_40 (by decide) ?_
      refine gm_sub (L' := [(0, .ref a0), (1, .int (s1.1 ||| s6)), (2, .int (s1.2 + (1 : Int32)))]) [2, 1, 0] rfl ?_
      exact gm_back (fun h => h)
    ·
      refine gm_if_le (tgt := 34) d_X12_bubbles_25 (by decide) (fun h25 => ?_) (fun h25 => ?_)
      ·
        refine gm_iconst (v := 0) d_X12_bubbles_34 (by decide) ?_
        exact hj7 (0 : Int32)
      ·
        refine gm_iconst (v := 1) d_X12_bubbles_28 (by decide) ?_
        refine gm_iload_n d_X12_bubbles_29 rfl 2 rfl ?_
        refine gm_ishl d_X12_bubbles_30 ?_
        refine gm_goto (tgt := 35) d_X12_bubbles_31 (by decide) ?_
        exact hj7 ((1 : Int32) <<< (s1.2 &&& 31))
theorem d_X12_sweetNow_0 : decode prog_14_method_25_code 0 = .ok (.aload_n 0, 1) := ge_aload_n_0 (by decide +kernel)
theorem d_X12_sweetNow_1 : decode prog_14_method_25_code 1 = .ok (.sipush 215, 3) := ge_sipush (by decide +kernel)
theorem d_X12_sweetNow_4 : decode prog_14_method_25_code 4 = .ok (.bipush 20, 2) := ge_bipush (by decide +kernel)
theorem d_X12_sweetNow_6 : decode prog_14_method_25_code 6 = .ok (.invokevirtual 129, 3) := ge_invokevirtual (by decide +kernel)
theorem d_X12_sweetNow_9 : decode prog_14_method_25_code 9 = .ok (.ireturn, 1) := ge_ireturn (by decide +kernel)
def f_X12_sweetNow (a0 : Nat) (μ : gm_M) : Option (Option Value × gm_M) := if gm_tag μ a0 = 17 then gm_bI (f_X12_tellsOf a0 (215 : Int32) (20 : Int32) μ) (fun x2 m1 => some (some (.int x2), m1)) else none
set_option maxHeartbeats 4000000 in
theorem c_X12_sweetNow (a0 : Nat) (μ : gm_M) : gm_Call ({ cls := "GumBubbleModel", name := "sweetNow", desc := "()I" } : Jvm.MethodName) prog_14_method_25_code 1 (some .int) 1 0 0 [.ref a0] μ (f_X12_sweetNow a0 μ) := by
  refine gm_start PN_12 (Nat.le_of_ble_eq_true rfl) (fun res μe => ?_)
  unfold f_X12_sweetNow
  show gm_A "GumBubbleModel" (gm_nm "sweetNow") _ _ _ _ _ _ _ _ _ 0 [(0, .ref a0)] [] _ _
  refine gm_aload_n d_X12_sweetNow_0 rfl 0 rfl ?_
  refine gm_sipush (v := 215) d_X12_sweetNow_1 (by decide) ?_
  refine gm_bipush (v := 20) d_X12_sweetNow_4 (by decide) ?_
  refine gm_grd (fun g6 => ?_)
  refine gm_callV (k0 := 12) [.int (215 : Int32), .int (20 : Int32)] (c_X12_tellsOf a0 (215 : Int32) (20 : Int32) μ) g6 rfl B_X12_tellsOf gw_1039 gs_39 rfl rfl rfl d_X12_sweetNow_6 (gm_kI (fun x2 m1 => ?_))
  exact gm_iret rfl d_X12_sweetNow_9 (Nat.le_of_ble_eq_true rfl) (Nat.le_of_ble_eq_true rfl) (fun h => h)
theorem d_X12_child_0 : decode prog_14_method_32_code 0 = .ok (.iload_n 1, 1) := ge_iload_n_1 (by decide +kernel)
theorem d_X12_child_1 : decode prog_14_method_32_code 1 = .ok (.iconst 0, 1) := ge_iconst_0 (by decide +kernel)
theorem d_X12_child_2 : decode prog_14_method_32_code 2 = .ok (.bipush 6, 2) := ge_bipush (by decide +kernel)
theorem d_X12_child_4 : decode prog_14_method_32_code 4 = .ok (.invokestatic 44, 3) := ge_invokestatic (by decide +kernel)
theorem d_X12_child_7 : decode prog_14_method_32_code 7 = .ok (.ifCond .ne 5, 3) := ge_ifCond_ne (by decide +kernel)
theorem d_X12_child_10 : decode prog_14_method_32_code 10 = .ok (.iconst (-1), 1) := ge_iconst_m1_ (by decide +kernel)
theorem d_X12_child_11 : decode prog_14_method_32_code 11 = .ok (.ireturn, 1) := ge_ireturn (by decide +kernel)
theorem d_X12_child_12 : decode prog_14_method_32_code 12 = .ok (.iload_n 2, 1) := ge_iload_n_2 (by decide +kernel)
theorem d_X12_child_13 : decode prog_14_method_32_code 13 = .ok (.iconst 0, 1) := ge_iconst_0 (by decide +kernel)
theorem d_X12_child_14 : decode prog_14_method_32_code 14 = .ok (.bipush 9, 2) := ge_bipush (by decide +kernel)
theorem d_X12_child_16 : decode prog_14_method_32_code 16 = .ok (.invokestatic 44, 3) := ge_invokestatic (by decide +kernel)
theorem d_X12_child_19 : decode prog_14_method_32_code 19 = .ok (.ifCond .ne 6, 3) := ge_ifCond_ne (by decide +kernel)
theorem d_X12_child_22 : decode prog_14_method_32_code 22 = .ok (.bipush (-2), 2) := ge_bipush (by decide +kernel)
theorem d_X12_child_24 : decode prog_14_method_32_code 24 = .ok (.ireturn, 1) := ge_ireturn (by decide +kernel)
theorem d_X12_child_25 : decode prog_14_method_32_code 25 = .ok (.aload_n 0, 1) := ge_aload_n_0 (by decide +kernel)
theorem d_X12_child_26 : decode prog_14_method_32_code 26 = .ok (.getfield 9, 3) := ge_getfield (by decide +kernel)
theorem d_X12_child_29 : decode prog_14_method_32_code 29 = .ok (.bipush 26, 2) := ge_bipush (by decide +kernel)
theorem d_X12_child_31 : decode prog_14_method_32_code 31 = .ok (.iaload, 1) := ge_iaload (by decide +kernel)
theorem d_X12_child_32 : decode prog_14_method_32_code 32 = .ok (.iconst 5, 1) := ge_iconst_5 (by decide +kernel)
theorem d_X12_child_33 : decode prog_14_method_32_code 33 = .ok (.if_icmp .ne 6, 3) := ge_if_icmp_ne (by decide +kernel)
theorem d_X12_child_36 : decode prog_14_method_32_code 36 = .ok (.bipush (-4), 2) := ge_bipush (by decide +kernel)
theorem d_X12_child_38 : decode prog_14_method_32_code 38 = .ok (.ireturn, 1) := ge_ireturn (by decide +kernel)
theorem d_X12_child_39 : decode prog_14_method_32_code 39 = .ok (.aload_n 0, 1) := ge_aload_n_0 (by decide +kernel)
theorem d_X12_child_40 : decode prog_14_method_32_code 40 = .ok (.getfield 9, 3) := ge_getfield (by decide +kernel)
theorem d_X12_child_43 : decode prog_14_method_32_code 43 = .ok (.bipush 26, 2) := ge_bipush (by decide +kernel)
theorem d_X12_child_45 : decode prog_14_method_32_code 45 = .ok (.iaload, 1) := ge_iaload (by decide +kernel)
theorem d_X12_child_46 : decode prog_14_method_32_code 46 = .ok (.istore_n 3, 1) := ge_istore_n_3 (by decide +kernel)
theorem d_X12_child_47 : decode prog_14_method_32_code 47 = .ok (.aload_n 0, 1) := ge_aload_n_0 (by decide +kernel)
theorem d_X12_child_48 : decode prog_14_method_32_code 48 = .ok (.getfield 9, 3) := ge_getfield (by decide +kernel)
theorem d_X12_child_51 : decode prog_14_method_32_code 51 = .ok (.bipush 33, 2) := ge_bipush (by decide +kernel)
theorem d_X12_child_53 : decode prog_14_method_32_code 53 = .ok (.iload_n 3, 1) := ge_iload_n_3 (by decide +kernel)
theorem d_X12_child_54 : decode prog_14_method_32_code 54 = .ok (.iadd, 1) := ge_iadd (by decide +kernel)
theorem d_X12_child_55 : decode prog_14_method_32_code 55 = .ok (.iload_n 1, 1) := ge_iload_n_1 (by decide +kernel)
theorem d_X12_child_56 : decode prog_14_method_32_code 56 = .ok (.iastore, 1) := ge_iastore (by decide +kernel)
theorem d_X12_child_57 : decode prog_14_method_32_code 57 = .ok (.aload_n 0, 1) := ge_aload_n_0 (by decide +kernel)
theorem d_X12_child_58 : decode prog_14_method_32_code 58 = .ok (.getfield 9, 3) := ge_getfield (by decide +kernel)
theorem d_X12_child_61 : decode prog_14_method_32_code 61 = .ok (.bipush 38, 2) := ge_bipush (by decide +kernel)
theorem d_X12_child_63 : decode prog_14_method_32_code 63 = .ok (.iload_n 3, 1) := ge_iload_n_3 (by decide +kernel)
theorem d_X12_child_64 : decode prog_14_method_32_code 64 = .ok (.iadd, 1) := ge_iadd (by decide +kernel)
theorem d_X12_child_65 : decode prog_14_method_32_code 65 = .ok (.iload_n 2, 1) := ge_iload_n_2 (by decide +kernel)
theorem d_X12_child_66 : decode prog_14_method_32_code 66 = .ok (.iastore, 1) := ge_iastore (by decide +kernel)
theorem d_X12_child_67 : decode prog_14_method_32_code 67 = .ok (.aload_n 0, 1) := ge_aload_n_0 (by decide +kernel)
theorem d_X12_child_68 : decode prog_14_method_32_code 68 = .ok (.getfield 9, 3) := ge_getfield (by decide +kernel)
theorem d_X12_child_71 : decode prog_14_method_32_code 71 = .ok (.iconst 1, 1) := ge_iconst_1 (by decide +kernel)
theorem d_X12_child_72 : decode prog_14_method_32_code 72 = .ok (.iload_n 3, 1) := ge_iload_n_3 (by decide +kernel)
theorem d_X12_child_73 : decode prog_14_method_32_code 73 = .ok (.iadd, 1) := ge_iadd (by decide +kernel)
theorem d_X12_child_74 : decode prog_14_method_32_code 74 = .ok (.iconst 1, 1) := ge_iconst_1 (by decide +kernel)
theorem d_X12_child_75 : decode prog_14_method_32_code 75 = .ok (.iastore, 1) := ge_iastore (by decide +kernel)
theorem d_X12_child_76 : decode prog_14_method_32_code 76 = .ok (.aload_n 0, 1) := ge_aload_n_0 (by decide +kernel)
theorem d_X12_child_77 : decode prog_14_method_32_code 77 = .ok (.getfield 9, 3) := ge_getfield (by decide +kernel)
theorem d_X12_child_80 : decode prog_14_method_32_code 80 = .ok (.bipush 6, 2) := ge_bipush (by decide +kernel)
theorem d_X12_child_82 : decode prog_14_method_32_code 82 = .ok (.iload_n 3, 1) := ge_iload_n_3 (by decide +kernel)
theorem d_X12_child_83 : decode prog_14_method_32_code 83 = .ok (.iadd, 1) := ge_iadd (by decide +kernel)
theorem d_X12_child_84 : decode prog_14_method_32_code 84 = .ok (.aload_n 0, 1) := ge_aload_n_0 (by decide +kernel)
theorem d_X12_child_85 : decode prog_14_method_32_code 85 = .ok (.invokevirtual 151, 3) := ge_invokevirtual (by decide +kernel)
theorem d_X12_child_88 : decode prog_14_method_32_code 88 = .ok (.iastore, 1) := ge_iastore (by decide +kernel)
theorem d_X12_child_89 : decode prog_14_method_32_code 89 = .ok (.aload_n 0, 1) := ge_aload_n_0 (by decide +kernel)
theorem d_X12_child_90 : decode prog_14_method_32_code 90 = .ok (.getfield 9, 3) := ge_getfield (by decide +kernel)
theorem d_X12_child_93 : decode prog_14_method_32_code 93 = .ok (.bipush 11, 2) := ge_bipush (by decide +kernel)
theorem d_X12_child_95 : decode prog_14_method_32_code 95 = .ok (.iload_n 3, 1) := ge_iload_n_3 (by decide +kernel)
theorem d_X12_child_96 : decode prog_14_method_32_code 96 = .ok (.iadd, 1) := ge_iadd (by decide +kernel)
theorem d_X12_child_97 : decode prog_14_method_32_code 97 = .ok (.iconst 0, 1) := ge_iconst_0 (by decide +kernel)
theorem d_X12_child_98 : decode prog_14_method_32_code 98 = .ok (.iastore, 1) := ge_iastore (by decide +kernel)
theorem d_X12_child_99 : decode prog_14_method_32_code 99 = .ok (.aload_n 0, 1) := ge_aload_n_0 (by decide +kernel)
theorem d_X12_child_100 : decode prog_14_method_32_code 100 = .ok (.getfield 9, 3) := ge_getfield (by decide +kernel)
theorem d_X12_child_103 : decode prog_14_method_32_code 103 = .ok (.bipush 16, 2) := ge_bipush (by decide +kernel)
theorem d_X12_child_105 : decode prog_14_method_32_code 105 = .ok (.iload_n 3, 1) := ge_iload_n_3 (by decide +kernel)
theorem d_X12_child_106 : decode prog_14_method_32_code 106 = .ok (.iadd, 1) := ge_iadd (by decide +kernel)
theorem d_X12_child_107 : decode prog_14_method_32_code 107 = .ok (.iconst 0, 1) := ge_iconst_0 (by decide +kernel)
theorem d_X12_child_108 : decode prog_14_method_32_code 108 = .ok (.iastore, 1) := ge_iastore (by decide +kernel)
theorem d_X12_child_109 : decode prog_14_method_32_code 109 = .ok (.aload_n 0, 1) := ge_aload_n_0 (by decide +kernel)
theorem d_X12_child_110 : decode prog_14_method_32_code 110 = .ok (.getfield 9, 3) := ge_getfield (by decide +kernel)
theorem d_X12_child_113 : decode prog_14_method_32_code 113 = .ok (.bipush 21, 2) := ge_bipush (by decide +kernel)
theorem d_X12_child_115 : decode prog_14_method_32_code 115 = .ok (.iload_n 3, 1) := ge_iload_n_3 (by decide +kernel)
theorem d_X12_child_116 : decode prog_14_method_32_code 116 = .ok (.iadd, 1) := ge_iadd (by decide +kernel)
theorem d_X12_child_117 : decode prog_14_method_32_code 117 = .ok (.iconst 0, 1) := ge_iconst_0 (by decide +kernel)
theorem d_X12_child_118 : decode prog_14_method_32_code 118 = .ok (.iastore, 1) := ge_iastore (by decide +kernel)
theorem d_X12_child_119 : decode prog_14_method_32_code 119 = .ok (.iconst 0, 1) := ge_iconst_0 (by decide +kernel)
theorem d_X12_child_120 : decode prog_14_method_32_code 120 = .ok (.istore 4, 2) := ge_istore (by decide +kernel)
theorem d_X12_child_122 : decode prog_14_method_32_code 122 = .ok (.iload 4, 2) := ge_iload (by decide +kernel)
theorem d_X12_child_124 : decode prog_14_method_32_code 124 = .ok (.iconst 4, 1) := ge_iconst_4 (by decide +kernel)
theorem d_X12_child_125 : decode prog_14_method_32_code 125 = .ok (.if_icmp .ge 24, 3) := ge_if_icmp_ge (by decide +kernel)
theorem d_X12_child_128 : decode prog_14_method_32_code 128 = .ok (.aload_n 0, 1) := ge_aload_n_0 (by decide +kernel)
theorem d_X12_child_129 : decode prog_14_method_32_code 129 = .ok (.getfield 9, 3) := ge_getfield (by decide +kernel)
theorem d_X12_child_132 : decode prog_14_method_32_code 132 = .ok (.bipush 43, 2) := ge_bipush (by decide +kernel)
theorem d_X12_child_134 : decode prog_14_method_32_code 134 = .ok (.iconst 4, 1) := ge_iconst_4 (by decide +kernel)
theorem d_X12_child_135 : decode prog_14_method_32_code 135 = .ok (.iload_n 3, 1) := ge_iload_n_3 (by decide +kernel)
theorem d_X12_child_136 : decode prog_14_method_32_code 136 = .ok (.imul, 1) := ge_imul (by decide +kernel)
theorem d_X12_child_137 : decode prog_14_method_32_code 137 = .ok (.iadd, 1) := ge_iadd (by decide +kernel)
theorem d_X12_child_138 : decode prog_14_method_32_code 138 = .ok (.iload 4, 2) := ge_iload (by decide +kernel)
theorem d_X12_child_140 : decode prog_14_method_32_code 140 = .ok (.iadd, 1) := ge_iadd (by decide +kernel)
theorem d_X12_child_141 : decode prog_14_method_32_code 141 = .ok (.iconst 0, 1) := ge_iconst_0 (by decide +kernel)
theorem d_X12_child_142 : decode prog_14_method_32_code 142 = .ok (.iastore, 1) := ge_iastore (by decide +kernel)
theorem d_X12_child_143 : decode prog_14_method_32_code 143 = .ok (.iinc 4 1, 3) := ge_iinc (by decide +kernel)
theorem d_X12_child_146 : decode prog_14_method_32_code 146 = .ok (.goto (-24), 3) := ge_goto (by decide +kernel)
theorem d_X12_child_149 : decode prog_14_method_32_code 149 = .ok (.aload_n 0, 1) := ge_aload_n_0 (by decide +kernel)
theorem d_X12_child_150 : decode prog_14_method_32_code 150 = .ok (.getfield 9, 3) := ge_getfield (by decide +kernel)
theorem d_X12_child_153 : decode prog_14_method_32_code 153 = .ok (.bipush 26, 2) := ge_bipush (by decide +kernel)
theorem d_X12_child_155 : decode prog_14_method_32_code 155 = .ok (.dup2, 1) := ge_dup2 (by decide +kernel)
theorem d_X12_child_156 : decode prog_14_method_32_code 156 = .ok (.iaload, 1) := ge_iaload (by decide +kernel)
theorem d_X12_child_157 : decode prog_14_method_32_code 157 = .ok (.iconst 1, 1) := ge_iconst_1 (by decide +kernel)
theorem d_X12_child_158 : decode prog_14_method_32_code 158 = .ok (.iadd, 1) := ge_iadd (by decide +kernel)
theorem d_X12_child_159 : decode prog_14_method_32_code 159 = .ok (.iastore, 1) := ge_iastore (by decide +kernel)
theorem d_X12_child_160 : decode prog_14_method_32_code 160 = .ok (.iload_n 3, 1) := ge_iload_n_3 (by decide +kernel)
theorem d_X12_child_161 : decode prog_14_method_32_code 161 = .ok (.ireturn, 1) := ge_ireturn (by decide +kernel)
def f_X12_child (a0 : Nat) (a1 : Int32) (a2 : Int32) (μ : gm_M) : Option (Option Value × gm_M) := gm_bI (f_X12_in a1 (0 : Int32) (6 : Int32) μ) (fun x2 m1 => if x2 ≠ 0 then gm_bI (f_X12_in a2 (0 : Int32) (9 : Int32) m1) (fun x4 m3 => if x4 ≠ 0 then gm_gR m3 [17] a0 1 (fun v5 => gm_aI m3 v5 (26 : Int32) (fun v6 => if v6 ≠ (5 : Int32) then gm_gR m3 [17] a0 1 (fun v7 => gm_aI m3 v7 (26 : Int32) (fun v8 => gm_gR m3 [17] a0 1 (fun v9 => gm_sI m3 v9 ((33 : Int32) + v8) a1 (fun m10 => gm_gR m10 [17] a0 1 (fun v11 => gm_sI m10 v11 ((38 : Int32) + v8) a2 (fun m12 => gm_gR m12 [17] a0 1 (fun v13 => gm_sI m12 v13 ((1 : Int32) + v8) (1 : Int32) (fun m14 => gm_gR m14 [17] a0 1 (fun v15 => if gm_tag m14 a0 = 17 then gm_bI (f_X12_sweetNow a0 m14) (fun x17 m16 => gm_sI m16 v15 ((6 : Int32) + v8) x17 (fun m18 => gm_gR m18 [17] a0 1 (fun v19 => gm_sI m18 v19 ((11 : Int32) + v8) (0 : Int32) (fun m20 => gm_gR m20 [17] a0 1 (fun v21 => gm_sI m20 v21 ((16 : Int32) + v8) (0 : Int32) (fun m22 => gm_gR m22 [17] a0 1 (fun v23 => gm_sI m22 v23 ((21 : Int32) + v8) (0 : Int32) (fun m24 => gm_loop (fun (s25 : Int32 × gm_M) => if (4 : Int32) ≤ s25.1 then gm_gR s25.2 [17] a0 1 (fun v26 => gm_aI s25.2 v26 (26 : Int32) (fun v27 => gm_sI s25.2 v26 (26 : Int32) (v27 + (1 : Int32)) (fun m28 => some (Sum.inr (some (.int v8), m28))))) else gm_gR s25.2 [17] a0 1 (fun v29 => gm_sI s25.2 v29 (((43 : Int32) + ((4 : Int32) * v8)) + s25.1) (0 : Int32) (fun m30 => some (Sum.inl ((s25.1 + (1 : Int32)), m30))))) 5000 ((0 : Int32), m24))))))))) else none))))))))) else some (some (.int (-4 : Int32)), m3))) else some (some (.int (-2 : Int32)), m3)) else some (some (.int (-1 : Int32)), m1))
set_option maxHeartbeats 4000000 in
theorem c_X12_child (a0 : Nat) (a1 : Int32) (a2 : Int32) (μ : gm_M) : gm_Call ({ cls := "GumBubbleModel", name := "child", desc := "(II)I" } : Jvm.MethodName) prog_14_method_32_code 5 (some .int) 2 0 0 [.ref a0, .int a1, .int a2] μ (f_X12_child a0 a1 a2 μ) := by
  refine gm_start PN_12 (Nat.le_of_ble_eq_true rfl) (fun res μe => ?_)
  unfold f_X12_child
  show gm_A "GumBubbleModel" (gm_nm "child") _ _ _ _ _ _ _ _ _ 0 [(0, .ref a0), (1, .int a1), (2, .int a2)] [] _ _
  refine gm_iload_n d_X12_child_0 rfl 1 rfl ?_
  refine gm_iconst (v := 0) d_X12_child_1 (by decide) ?_
  refine gm_bipush (v := 6) d_X12_child_2 (by decide) ?_
  refine gm_callS [.int a1, .int (0 : Int32), .int (6 : Int32)] (c_X12_in a1 (0 : Int32) (6 : Int32) μ) B_X12_in gw_964 rfl rfl rfl d_X12_child_4 (gm_kI (fun x2 m1 => ?_))
  refine gm_if_ne (tgt := 12) d_X12_child_7 (by decide) (fun h7 => ?_) (fun h7 => ?_)
  ·
    refine gm_iload_n d_X12_child_12 rfl 2 rfl ?_
    refine gm_iconst (v := 0) d_X12_child_13 (by decide) ?_
    refine gm_bipush (v := 9) d_X12_child_14 (by decide) ?_
    refine gm_callS [.int a2, .int (0 : Int32), .int (9 : Int32)] (c_X12_in a2 (0 : Int32) (9 : Int32) m1) B_X12_in gw_964 rfl rfl rfl d_X12_child_16 (gm_kI (fun x4 m3 => ?_))
    refine gm_if_ne (tgt := 25) d_X12_child_19 (by decide) (fun h19 => ?_) (fun h19 => ?_)
    ·
      refine gm_aload_n d_X12_child_25 rfl 0 rfl ?_
      refine gm_getR F_12_s gw_890 d_X12_child_26 (fun v5 _ => ?_)
      refine gm_bipush (v := 26) d_X12_child_29 (by decide) ?_
      refine gm_iald d_X12_child_31 (fun v6 _ => ?_)
      refine gm_iconst (v := 5) d_X12_child_32 (by decide) ?_
      refine gm_icmp_ne (tgt := 39) d_X12_child_33 (by decide) (fun h33 => ?_) (fun h33 => ?_)
      ·
        refine gm_aload_n d_X12_child_39 rfl 0 rfl ?_
        refine gm_getR F_12_s gw_890 d_X12_child_40 (fun v7 _ => ?_)
        refine gm_bipush (v := 26) d_X12_child_43 (by decide) ?_
        refine gm_iald d_X12_child_45 (fun v8 _ => ?_)
        refine gm_istore_n (L' := [(3, .int v8), (0, .ref a0), (1, .int a1), (2, .int a2)]) d_X12_child_46 rfl (Nat.le_of_ble_eq_true rfl) rfl ?_
        refine gm_aload_n d_X12_child_47 rfl 1 rfl ?_
        refine gm_getR F_12_s gw_890 d_X12_child_48 (fun v9 _ => ?_)
        refine gm_bipush (v := 33) d_X12_child_51 (by decide) ?_
        refine gm_iload_n d_X12_child_53 rfl 0 rfl ?_
        refine gm_iadd d_X12_child_54 ?_
        refine gm_iload_n d_X12_child_55 rfl 2 rfl ?_
        refine gm_iast d_X12_child_56 (fun m10 _ => ?_)
        refine gm_aload_n d_X12_child_57 rfl 1 rfl ?_
        refine gm_getR F_12_s gw_890 d_X12_child_58 (fun v11 _ => ?_)
        refine gm_bipush (v := 38) d_X12_child_61 (by decide) ?_
        refine gm_iload_n d_X12_child_63 rfl 0 rfl ?_
        refine gm_iadd d_X12_child_64 ?_
        refine gm_iload_n d_X12_child_65 rfl 3 rfl ?_
        refine gm_iast d_X12_child_66 (fun m12 _ => ?_)
        refine gm_aload_n d_X12_child_67 rfl 1 rfl ?_
        refine gm_getR F_12_s gw_890 d_X12_child_68 (fun v13 _ => ?_)
        refine gm_iconst (v := 1) d_X12_child_71 (by decide) ?_
        refine gm_iload_n d_X12_child_72 rfl 0 rfl ?_
        refine gm_iadd d_X12_child_73 ?_
        refine gm_iconst (v := 1) d_X12_child_74 (by decide) ?_
        refine gm_iast d_X12_child_75 (fun m14 _ => ?_)
        refine gm_aload_n d_X12_child_76 rfl 1 rfl ?_
        refine gm_getR F_12_s gw_890 d_X12_child_77 (fun v15 _ => ?_)
        refine gm_bipush (v := 6) d_X12_child_80 (by decide) ?_
        refine gm_iload_n d_X12_child_82 rfl 0 rfl ?_
        refine gm_iadd d_X12_child_83 ?_
        refine gm_aload_n d_X12_child_84 rfl 1 rfl ?_
        refine gm_grd (fun g85 => ?_)
        refine gm_callV (k0 := 12) [] (c_X12_sweetNow a0 m14) g85 rfl B_X12_sweetNow gw_1035 gs_38 rfl rfl rfl d_X12_child_85 (gm_kI (fun x17 m16 => ?_))
        refine gm_iast d_X12_child_88 (fun m18 _ => ?_)
        refine gm_aload_n d_X12_child_89 rfl 1 rfl ?_
        refine gm_getR F_12_s gw_890 d_X12_child_90 (fun v19 _ => ?_)
        refine gm_bipush (v := 11) d_X12_child_93 (by decide) ?_
        refine gm_iload_n d_X12_child_95 rfl 0 rfl ?_
        refine gm_iadd d_X12_child_96 ?_
        refine gm_iconst (v := 0) d_X12_child_97 (by decide) ?_
        refine gm_iast d_X12_child_98 (fun m20 _ => ?_)
        refine gm_aload_n d_X12_child_99 rfl 1 rfl ?_
        refine gm_getR F_12_s gw_890 d_X12_child_100 (fun v21 _ => ?_)
        refine gm_bipush (v := 16) d_X12_child_103 (by decide) ?_
        refine gm_iload_n d_X12_child_105 rfl 0 rfl ?_
        refine gm_iadd d_X12_child_106 ?_
        refine gm_iconst (v := 0) d_X12_child_107 (by decide) ?_
        refine gm_iast d_X12_child_108 (fun m22 _ => ?_)
        refine gm_aload_n d_X12_child_109 rfl 1 rfl ?_
        refine gm_getR F_12_s gw_890 d_X12_child_110 (fun v23 _ => ?_)
        refine gm_bipush (v := 21) d_X12_child_113 (by decide) ?_
        refine gm_iload_n d_X12_child_115 rfl 0 rfl ?_
        refine gm_iadd d_X12_child_116 ?_
        refine gm_iconst (v := 0) d_X12_child_117 (by decide) ?_
        refine gm_iast d_X12_child_118 (fun m24 _ => ?_)
        refine gm_iconst (v := 0) d_X12_child_119 (by decide) ?_
        refine gm_istore (L' := [(4, .int (0 : Int32)), (3, .int v8), (0, .ref a0), (1, .int a1), (2, .int a2)]) d_X12_child_120 (Nat.le_of_ble_eq_true rfl) rfl ?_
        refine gm_sub (L' := [(0, .ref a0), (1, .int a1), (2, .int a2), (3, .int v8), (4, .int (0 : Int32))]) [2, 3, 4, 1, 0] rfl ?_
        refine gm_lp (S := Int32 × gm_M) (fun _ => 0) (fun _ => 0) (fun s25 => s25.2) (fun s25 => [(0, .ref a0), (1, .int a1), (2, .int a2), (3, .int v8), (4, .int s25.1)]) (fun _ => []) (fun s25 => ?_) 5000 ((0 : Int32), m24)
        refine gm_iload d_X12_child_122 4 rfl ?_
        refine gm_iconst (v := 4) d_X12_child_124 (by decide) ?_
        refine gm_icmp_ge (tgt := 149) d_X12_child_125 (by decide) (fun h125 => ?_) (fun h125 => ?_)
        ·
          refine gm_aload_n d_X12_child_149 rfl 0 rfl ?_
          refine gm_getR F_12_s gw_890 d_X12_child_150 (fun v26 _ => ?_)
          refine gm_bipush (v := 26) d_X12_child_153 (by decide) ?_
          refine gm_dup2 d_X12_child_155 rfl rfl ?_
          refine gm_iald d_X12_child_156 (fun v27 _ => ?_)
          refine gm_iconst (v := 1) d_X12_child_157 (by decide) ?_
          refine gm_iadd d_X12_child_158 ?_
          refine gm_iast d_X12_child_159 (fun m28 _ => ?_)
          refine gm_iload_n d_X12_child_160 rfl 3 rfl ?_
          exact gm_iret rfl d_X12_child_161 (Nat.le_of_ble_eq_true rfl) (Nat.le_of_ble_eq_true rfl) (fun h => h)
        ·
          refine gm_aload_n d_X12_child_128 rfl 0 rfl ?_
          refine gm_getR F_12_s gw_890 d_X12_child_129 (fun v29 _ => ?_)
          refine gm_bipush (v := 43) d_X12_child_132 (by decide) ?_
          refine gm_iconst (v := 4) d_X12_child_134 (by decide) ?_
          refine gm_iload_n d_X12_child_135 rfl 3 rfl ?_
          refine gm_imul d_X12_child_136 ?_
          refine gm_iadd d_X12_child_137 ?_
          refine gm_iload d_X12_child_138 4 rfl ?_
          refine gm_iadd d_X12_child_140 ?_
          refine gm_iconst (v := 0) d_X12_child_141 (by decide) ?_
          refine gm_iast d_X12_child_142 (fun m30 _ => ?_)
          refine gm_iinc (v := s25.1 + (1 : Int32)) (L' := [(4, .int (s25.1 + (1 : Int32))), (0, .ref a0), (1, .int a1), (2, .int a2), (3, .int v8)]) d_X12_child_143 4 rfl rfl (Nat.le_of_ble_eq_true rfl) rfl ?_
          refine gm_goto (tgt := 122) d_X12_child_146 (by decide) ?_
          refine gm_sub (L' := [(0, .ref a0), (1, .int a1), (2, .int a2), (3, .int v8), (4, .int (s25.1 + (1 : Int32)))]) [1, 2, 3, 4, 0] rfl ?_
          exact gm_back (fun h => h)
      ·
        refine gm_bipush (v := -4) d_X12_child_36 (by decide) ?_
        exact gm_iret rfl d_X12_child_38 (Nat.le_of_ble_eq_true rfl) (Nat.le_of_ble_eq_true rfl) (fun h => h)
    ·
      refine gm_bipush (v := -2) d_X12_child_22 (by decide) ?_
      exact gm_iret rfl d_X12_child_24 (Nat.le_of_ble_eq_true rfl) (Nat.le_of_ble_eq_true rfl) (fun h => h)
  ·
    refine gm_iconst (v := -1) d_X12_child_10 (by decide) ?_
    exact gm_iret rfl d_X12_child_11 (Nat.le_of_ble_eq_true rfl) (Nat.le_of_ble_eq_true rfl) (fun h => h)
theorem d_X12_clean_0 : decode prog_14_method_65_code 0 = .ok (.aload_n 0, 1) := ge_aload_n_0 (by decide +kernel)
theorem d_X12_clean_1 : decode prog_14_method_65_code 1 = .ok (.iload_n 1, 1) := ge_iload_n_1 (by decide +kernel)
theorem d_X12_clean_2 : decode prog_14_method_65_code 2 = .ok (.invokevirtual 154, 3) := ge_invokevirtual (by decide +kernel)
theorem d_X12_clean_5 : decode prog_14_method_65_code 5 = .ok (.ifCond .ne 5, 3) := ge_ifCond_ne (by decide +kernel)
theorem d_X12_clean_8 : decode prog_14_method_65_code 8 = .ok (.iconst (-1), 1) := ge_iconst_m1_ (by decide +kernel)
theorem d_X12_clean_9 : decode prog_14_method_65_code 9 = .ok (.ireturn, 1) := ge_ireturn (by decide +kernel)
theorem d_X12_clean_10 : decode prog_14_method_65_code 10 = .ok (.iload_n 2, 1) := ge_iload_n_2 (by decide +kernel)
theorem d_X12_clean_11 : decode prog_14_method_65_code 11 = .ok (.iconst 1, 1) := ge_iconst_1 (by decide +kernel)
theorem d_X12_clean_12 : decode prog_14_method_65_code 12 = .ok (.bipush 99, 2) := ge_bipush (by decide +kernel)
theorem d_X12_clean_14 : decode prog_14_method_65_code 14 = .ok (.invokestatic 44, 3) := ge_invokestatic (by decide +kernel)
theorem d_X12_clean_17 : decode prog_14_method_65_code 17 = .ok (.ifCond .eq 21, 3) := ge_ifCond_eq (by decide +kernel)
theorem d_X12_clean_20 : decode prog_14_method_65_code 20 = .ok (.aload_n 0, 1) := ge_aload_n_0 (by decide +kernel)
theorem d_X12_clean_21 : decode prog_14_method_65_code 21 = .ok (.getfield 9, 3) := ge_getfield (by decide +kernel)
theorem d_X12_clean_24 : decode prog_14_method_65_code 24 = .ok (.bipush 21, 2) := ge_bipush (by decide +kernel)
theorem d_X12_clean_26 : decode prog_14_method_65_code 26 = .ok (.iload_n 1, 1) := ge_iload_n_1 (by decide +kernel)
theorem d_X12_clean_27 : decode prog_14_method_65_code 27 = .ok (.iadd, 1) := ge_iadd (by decide +kernel)
theorem d_X12_clean_28 : decode prog_14_method_65_code 28 = .ok (.iaload, 1) := ge_iaload (by decide +kernel)
theorem d_X12_clean_29 : decode prog_14_method_65_code 29 = .ok (.iload_n 2, 1) := ge_iload_n_2 (by decide +kernel)
theorem d_X12_clean_30 : decode prog_14_method_65_code 30 = .ok (.iadd, 1) := ge_iadd (by decide +kernel)
theorem d_X12_clean_31 : decode prog_14_method_65_code 31 = .ok (.iconst 1, 1) := ge_iconst_1 (by decide +kernel)
theorem d_X12_clean_32 : decode prog_14_method_65_code 32 = .ok (.isub, 1) := ge_isub (by decide +kernel)
theorem d_X12_clean_33 : decode prog_14_method_65_code 33 = .ok (.iload_n 2, 1) := ge_iload_n_2 (by decide +kernel)
theorem d_X12_clean_34 : decode prog_14_method_65_code 34 = .ok (.idiv, 1) := ge_idiv (by decide +kernel)
theorem d_X12_clean_35 : decode prog_14_method_65_code 35 = .ok (.goto 5, 3) := ge_goto (by decide +kernel)
theorem d_X12_clean_38 : decode prog_14_method_65_code 38 = .ok (.bipush (-2), 2) := ge_bipush (by decide +kernel)
theorem d_X12_clean_40 : decode prog_14_method_65_code 40 = .ok (.ireturn, 1) := ge_ireturn (by decide +kernel)
def f_X12_clean (a0 : Nat) (a1 : Int32) (a2 : Int32) (μ : gm_M) : Option (Option Value × gm_M) := if gm_tag μ a0 = 17 then gm_bI (f_X12_isChild a0 a1 μ) (fun x2 m1 => if x2 ≠ 0 then gm_bI (f_X12_in a2 (1 : Int32) (99 : Int32) m1) (fun x4 m3 => if x4 = 0 then some (some (.int (-2 : Int32)), m3) else gm_gR m3 [17] a0 1 (fun v5 => gm_aI m3 v5 ((21 : Int32) + a1) (fun v6 => if a2 = 0 then none else some (some (.int (((v6 + a2) - (1 : Int32)) / a2)), m3)))) else some (some (.int (-1 : Int32)), m1)) else none
set_option maxHeartbeats 4000000 in
theorem c_X12_clean (a0 : Nat) (a1 : Int32) (a2 : Int32) (μ : gm_M) : gm_Call ({ cls := "GumBubbleModel", name := "clean", desc := "(II)I" } : Jvm.MethodName) prog_14_method_65_code 3 (some .int) 2 0 0 [.ref a0, .int a1, .int a2] μ (f_X12_clean a0 a1 a2 μ) := by
  refine gm_start PN_12 (Nat.le_of_ble_eq_true rfl) (fun res μe => ?_)
  unfold f_X12_clean
  show gm_A "GumBubbleModel" (gm_nm "clean") _ _ _ _ _ _ _ _ _ 0 [(0, .ref a0), (1, .int a1), (2, .int a2)] [] _ _
  refine gm_aload_n d_X12_clean_0 rfl 0 rfl ?_
  refine gm_iload_n d_X12_clean_1 rfl 1 rfl ?_
  refine gm_grd (fun g2 => ?_)
  refine gm_callV (k0 := 12) [.int a1] (c_X12_isChild a0 a1 μ) g2 rfl B_X12_isChild gw_1047 gs_40 rfl rfl rfl d_X12_clean_2 (gm_kI (fun x2 m1 => ?_))
  refine gm_if_ne (tgt := 10) d_X12_clean_5 (by decide) (fun h5 => ?_) (fun h5 => ?_)
  ·
    refine gm_iload_n d_X12_clean_10 rfl 2 rfl ?_
    refine gm_iconst (v := 1) d_X12_clean_11 (by decide) ?_
    refine gm_bipush (v := 99) d_X12_clean_12 (by decide) ?_
    refine gm_callS [.int a2, .int (1 : Int32), .int (99 : Int32)] (c_X12_in a2 (1 : Int32) (99 : Int32) m1) B_X12_in gw_964 rfl rfl rfl d_X12_clean_14 (gm_kI (fun x4 m3 => ?_))
    refine gm_if_eq (tgt := 38) d_X12_clean_17 (by decide) (fun h17 => ?_) (fun h17 => ?_)
    ·
      refine gm_bipush (v := -2) d_X12_clean_38 (by decide) ?_
      exact gm_iret rfl d_X12_clean_40 (Nat.le_of_ble_eq_true rfl) (Nat.le_of_ble_eq_true rfl) (fun h => h)
    ·
      refine gm_aload_n d_X12_clean_20 rfl 0 rfl ?_
      refine gm_getR F_12_s gw_890 d_X12_clean_21 (fun v5 _ => ?_)
      refine gm_bipush (v := 21) d_X12_clean_24 (by decide) ?_
      refine gm_iload_n d_X12_clean_26 rfl 1 rfl ?_
      refine gm_iadd d_X12_clean_27 ?_
      refine gm_iald d_X12_clean_28 (fun v6 _ => ?_)
      refine gm_iload_n d_X12_clean_29 rfl 2 rfl ?_
      refine gm_iadd d_X12_clean_30 ?_
      refine gm_iconst (v := 1) d_X12_clean_31 (by decide) ?_
      refine gm_isub d_X12_clean_32 ?_
      refine gm_iload_n d_X12_clean_33 rfl 2 rfl ?_
      refine gm_idiv d_X12_clean_34 ?_
      refine gm_goto (tgt := 40) d_X12_clean_35 (by decide) ?_
      exact gm_iret rfl d_X12_clean_40 (Nat.le_of_ble_eq_true rfl) (Nat.le_of_ble_eq_true rfl) (fun h => h)
  ·
    refine gm_iconst (v := -1) d_X12_clean_8 (by decide) ?_
    exact gm_iret rfl d_X12_clean_9 (Nat.le_of_ble_eq_true rfl) (Nat.le_of_ble_eq_true rfl) (fun h => h)
theorem d_X12_count_0 : decode prog_14_method_92_code 0 = .ok (.iload_n 1, 1) := ge_iload_n_1 (by decide +kernel)
theorem d_X12_count_1 : decode prog_14_method_92_code 1 = .ok (.bipush 6, 2) := ge_bipush (by decide +kernel)
theorem d_X12_count_3 : decode prog_14_method_92_code 3 = .ok (.if_icmp .ne 10, 3) := ge_if_icmp_ne (by decide +kernel)
theorem d_X12_count_6 : decode prog_14_method_92_code 6 = .ok (.aload_n 0, 1) := ge_aload_n_0 (by decide +kernel)
theorem d_X12_count_7 : decode prog_14_method_92_code 7 = .ok (.getfield 247, 3) := ge_getfield (by decide +kernel)
theorem d_X12_count_10 : decode prog_14_method_92_code 10 = .ok (.goto 25, 3) := ge_goto (by decide +kernel)
theorem d_X12_count_13 : decode prog_14_method_92_code 13 = .ok (.iload_n 1, 1) := ge_iload_n_1 (by decide +kernel)
theorem d_X12_count_14 : decode prog_14_method_92_code 14 = .ok (.iconst 0, 1) := ge_iconst_0 (by decide +kernel)
theorem d_X12_count_15 : decode prog_14_method_92_code 15 = .ok (.iconst 5, 1) := ge_iconst_5 (by decide +kernel)
theorem d_X12_count_16 : decode prog_14_method_92_code 16 = .ok (.invokestatic 44, 3) := ge_invokestatic (by decide +kernel)
theorem d_X12_count_19 : decode prog_14_method_92_code 19 = .ok (.ifCond .eq 15, 3) := ge_ifCond_eq (by decide +kernel)
theorem d_X12_count_22 : decode prog_14_method_92_code 22 = .ok (.aload_n 0, 1) := ge_aload_n_0 (by decide +kernel)
theorem d_X12_count_23 : decode prog_14_method_92_code 23 = .ok (.getfield 9, 3) := ge_getfield (by decide +kernel)
theorem d_X12_count_26 : decode prog_14_method_92_code 26 = .ok (.bipush 26, 2) := ge_bipush (by decide +kernel)
theorem d_X12_count_28 : decode prog_14_method_92_code 28 = .ok (.iload_n 1, 1) := ge_iload_n_1 (by decide +kernel)
theorem d_X12_count_29 : decode prog_14_method_92_code 29 = .ok (.iadd, 1) := ge_iadd (by decide +kernel)
theorem d_X12_count_30 : decode prog_14_method_92_code 30 = .ok (.iaload, 1) := ge_iaload (by decide +kernel)
theorem d_X12_count_31 : decode prog_14_method_92_code 31 = .ok (.goto 4, 3) := ge_goto (by decide +kernel)
theorem d_X12_count_34 : decode prog_14_method_92_code 34 = .ok (.iconst (-1), 1) := ge_iconst_m1_ (by decide +kernel)
theorem d_X12_count_35 : decode prog_14_method_92_code 35 = .ok (.ireturn, 1) := ge_ireturn (by decide +kernel)
def f_X12_count (a0 : Nat) (a1 : Int32) (μ : gm_M) : Option (Option Value × gm_M) := if a1 ≠ (6 : Int32) then gm_bI (f_X12_in a1 (0 : Int32) (5 : Int32) μ) (fun x2 m1 => if x2 = 0 then some (some (.int (-1 : Int32)), m1) else gm_gR m1 [17] a0 1 (fun v3 => gm_aI m1 v3 ((26 : Int32) + a1) (fun v4 => some (some (.int v4), m1)))) else gm_gI μ [17] a0 19 (fun v5 => some (some (.int v5), μ))
set_option maxHeartbeats 4000000 in
theorem c_X12_count (a0 : Nat) (a1 : Int32) (μ : gm_M) : gm_Call ({ cls := "GumBubbleModel", name := "count", desc := "(I)I" } : Jvm.MethodName) prog_14_method_92_code 2 (some .int) 1 0 0 [.ref a0, .int a1] μ (f_X12_count a0 a1 μ) := by
  refine gm_start PN_12 (Nat.le_of_ble_eq_true rfl) (fun res μe => ?_)
  unfold f_X12_count
  show gm_A "GumBubbleModel" (gm_nm "count") _ _ _ _ _ _ _ _ _ 0 [(0, .ref a0), (1, .int a1)] [] _ _
  refine gm_iload_n d_X12_count_0 rfl 1 rfl ?_
  refine gm_bipush (v := 6) d_X12_count_1 (by decide) ?_
  refine gm_icmp_ne (tgt := 13) d_X12_count_3 (by decide) (fun h3 => ?_) (fun h3 => ?_)
  ·
    refine gm_iload_n d_X12_count_13 rfl 1 rfl ?_
    refine gm_iconst (v := 0) d_X12_count_14 (by decide) ?_
    refine gm_iconst (v := 5) d_X12_count_15 (by decide) ?_
    refine gm_callS [.int a1, .int (0 : Int32), .int (5 : Int32)] (c_X12_in a1 (0 : Int32) (5 : Int32) μ) B_X12_in gw_964 rfl rfl rfl d_X12_count_16 (gm_kI (fun x2 m1 => ?_))
    refine gm_if_eq (tgt := 34) d_X12_count_19 (by decide) (fun h19 => ?_) (fun h19 => ?_)
    ·
      refine gm_iconst (v := -1) d_X12_count_34 (by decide) ?_
      exact gm_iret rfl d_X12_count_35 (Nat.le_of_ble_eq_true rfl) (Nat.le_of_ble_eq_true rfl) (fun h => h)
    ·
      refine gm_aload_n d_X12_count_22 rfl 0 rfl ?_
      refine gm_getR F_12_s gw_890 d_X12_count_23 (fun v3 _ => ?_)
      refine gm_bipush (v := 26) d_X12_count_26 (by decide) ?_
      refine gm_iload_n d_X12_count_28 rfl 1 rfl ?_
      refine gm_iadd d_X12_count_29 ?_
      refine gm_iald d_X12_count_30 (fun v4 _ => ?_)
      refine gm_goto (tgt := 35) d_X12_count_31 (by decide) ?_
      exact gm_iret rfl d_X12_count_35 (Nat.le_of_ble_eq_true rfl) (Nat.le_of_ble_eq_true rfl) (fun h => h)
  ·
    refine gm_aload_n d_X12_count_6 rfl 0 rfl ?_
    refine gm_getI F_12_ran gw_908 d_X12_count_7 (fun v5 _ => ?_)
    refine gm_goto (tgt := 35) d_X12_count_10 (by decide) ?_
    exact gm_iret rfl d_X12_count_35 (Nat.le_of_ble_eq_true rfl) (Nat.le_of_ble_eq_true rfl) (fun h => h)
theorem d_X12_likelyOf_0 : decode prog_14_method_55_code 0 = .ok (.iconst 0, 1) := ge_iconst_0 (by decide +kernel)
theorem d_X12_likelyOf_1 : decode prog_14_method_55_code 1 = .ok (.istore_n 2, 1) := ge_istore_n_2 (by decide +kernel)
theorem d_X12_likelyOf_2 : decode prog_14_method_55_code 2 = .ok (.iconst 0, 1) := ge_iconst_0 (by decide +kernel)
theorem d_X12_likelyOf_3 : decode prog_14_method_55_code 3 = .ok (.istore_n 3, 1) := ge_istore_n_3 (by decide +kernel)
theorem d_X12_likelyOf_4 : decode prog_14_method_55_code 4 = .ok (.iload_n 3, 1) := ge_iload_n_3 (by decide +kernel)
theorem d_X12_likelyOf_5 : decode prog_14_method_55_code 5 = .ok (.bipush 10, 2) := ge_bipush (by decide +kernel)
theorem d_X12_likelyOf_7 : decode prog_14_method_55_code 7 = .ok (.if_icmp .ge 26, 3) := ge_if_icmp_ge (by decide +kernel)
theorem d_X12_likelyOf_10 : decode prog_14_method_55_code 10 = .ok (.iload_n 2, 1) := ge_iload_n_2 (by decide +kernel)
theorem d_X12_likelyOf_11 : decode prog_14_method_55_code 11 = .ok (.iload_n 1, 1) := ge_iload_n_1 (by decide +kernel)
theorem d_X12_likelyOf_12 : decode prog_14_method_55_code 12 = .ok (.iload_n 0, 1) := ge_iload_n_0 (by decide +kernel)
theorem d_X12_likelyOf_13 : decode prog_14_method_55_code 13 = .ok (.iload_n 3, 1) := ge_iload_n_3 (by decide +kernel)
theorem d_X12_likelyOf_14 : decode prog_14_method_55_code 14 = .ok (.invokestatic 204, 3) := ge_invokestatic (by decide +kernel)
theorem d_X12_likelyOf_17 : decode prog_14_method_55_code 17 = .ok (.if_icmp .gt 7, 3) := ge_if_icmp_gt (by decide +kernel)
theorem d_X12_likelyOf_20 : decode prog_14_method_55_code 20 = .ok (.iconst 1, 1) := ge_iconst_1 (by decide +kernel)
theorem d_X12_likelyOf_21 : decode prog_14_method_55_code 21 = .ok (.goto 4, 3) := ge_goto (by decide +kernel)
theorem d_X12_likelyOf_24 : decode prog_14_method_55_code 24 = .ok (.iconst 0, 1) := ge_iconst_0 (by decide +kernel)
theorem d_X12_likelyOf_25 : decode prog_14_method_55_code 25 = .ok (.iadd, 1) := ge_iadd (by decide +kernel)
theorem d_X12_likelyOf_26 : decode prog_14_method_55_code 26 = .ok (.istore_n 2, 1) := ge_istore_n_2 (by decide +kernel)
theorem d_X12_likelyOf_27 : decode prog_14_method_55_code 27 = .ok (.iinc 3 1, 3) := ge_iinc (by decide +kernel)
theorem d_X12_likelyOf_30 : decode prog_14_method_55_code 30 = .ok (.goto (-26), 3) := ge_goto (by decide +kernel)
theorem d_X12_likelyOf_33 : decode prog_14_method_55_code 33 = .ok (.iload_n 2, 1) := ge_iload_n_2 (by decide +kernel)
theorem d_X12_likelyOf_34 : decode prog_14_method_55_code 34 = .ok (.ireturn, 1) := ge_ireturn (by decide +kernel)
def f_X12_likelyOf (a0 : Int32) (a1 : Int32) (μ : gm_M) : Option (Option Value × gm_M) := gm_loop (fun (s1 : Int32 × Int32 × gm_M) => if (10 : Int32) ≤ s1.2.1 then some (Sum.inr (some (.int s1.1), s1.2.2)) else gm_bI (f_X12_thin a0 s1.2.1 s1.2.2) (fun x3 m2 => gm_j (fun (s4 : Int32) => some (Sum.inl ((s1.1 + s4), (s1.2.1 + (1 : Int32)), m2))) (fun j5 => if x3 < a1 then j5 (0 : Int32) else j5 (1 : Int32)))) 5000 ((0 : Int32), (0 : Int32), μ)
set_option maxHeartbeats 4000000 in
theorem c_X12_likelyOf (a0 : Int32) (a1 : Int32) (μ : gm_M) : gm_Call ({ cls := "GumBubbleModel", name := "likelyOf", desc := "(II)I" } : Jvm.MethodName) prog_14_method_55_code 4 (some .int) 2 0 0 [.int a0, .int a1] μ (f_X12_likelyOf a0 a1 μ) := by
  refine gm_start PN_12 (Nat.le_of_ble_eq_true rfl) (fun res μe => ?_)
  unfold f_X12_likelyOf
  show gm_A "GumBubbleModel" (gm_nm "likelyOf") _ _ _ _ _ _ _ _ _ 0 [(0, .int a0), (1, .int a1)] [] _ _
  refine gm_iconst (v := 0) d_X12_likelyOf_0 (by decide) ?_
  refine gm_istore_n (L' := [(2, .int (0 : Int32)), (0, .int a0), (1, .int a1)]) d_X12_likelyOf_1 rfl (Nat.le_of_ble_eq_true rfl) rfl ?_
  refine gm_iconst (v := 0) d_X12_likelyOf_2 (by decide) ?_
  refine gm_istore_n (L' := [(3, .int (0 : Int32)), (2, .int (0 : Int32)), (0, .int a0), (1, .int a1)]) d_X12_likelyOf_3 rfl (Nat.le_of_ble_eq_true rfl) rfl ?_
  refine gm_sub (L' := [(0, .int a0), (1, .int a1), (2, .int (0 : Int32)), (3, .int (0 : Int32))]) [2, 3, 1, 0] rfl ?_
  refine gm_lp (S := Int32 × Int32 × gm_M) (fun _ => 0) (fun _ => 0) (fun s1 => s1.2.2) (fun s1 => [(0, .int a0), (1, .int a1), (2, .int s1.1), (3, .int s1.2.1)]) (fun _ => []) (fun s1 => ?_) 5000 ((0 : Int32), (0 : Int32), μ)
  refine gm_iload_n d_X12_likelyOf_4 rfl 3 rfl ?_
  refine gm_bipush (v := 10) d_X12_likelyOf_5 (by decide) ?_
  refine gm_icmp_ge (tgt := 33) d_X12_likelyOf_7 (by decide) (fun h7 => ?_) (fun h7 => ?_)
  ·
    refine gm_iload_n d_X12_likelyOf_33 rfl 2 rfl ?_
    exact gm_iret rfl d_X12_likelyOf_34 (Nat.le_of_ble_eq_true rfl) (Nat.le_of_ble_eq_true rfl) (fun h => h)
  ·
    refine gm_iload_n d_X12_likelyOf_10 rfl 2 rfl ?_
    refine gm_iload_n d_X12_likelyOf_11 rfl 1 rfl ?_
    refine gm_iload_n d_X12_likelyOf_12 rfl 0 rfl ?_
    refine gm_iload_n d_X12_likelyOf_13 rfl 3 rfl ?_
    refine gm_callS [.int a0, .int s1.2.1] (c_X12_thin a0 s1.2.1 s1.2.2) B_X12_thin gw_1174 rfl rfl rfl d_X12_likelyOf_14 (gm_kI (fun x3 m2 => ?_))
    refine gm_join (S := Int32) (pj := 25) (kj := 0) (nj := 0) (fun s4 => m2) (fun s4 => [(0, .int a0), (1, .int a1), (2, .int s1.1), (3, .int s1.2.1)]) (fun s4 => [.int s4, .int s1.1]) (fun s4 => ?_) (fun j5 hj5 => ?_)
    ·
      refine gm_iadd d_X12_likelyOf_25 ?_
      refine gm_istore_n (L' := [(2, .int (s1.1 + s4)), (0, .int a0), (1, .int a1), (3, .int s1.2.1)]) d_X12_likelyOf_26 rfl (Nat.le_of_ble_eq_true rfl) rfl ?_
      refine gm_iinc (v := s1.2.1 + (1 : Int32)) (L' := [(3, .int (s1.2.1 + (1 : Int32))), (2, .int (s1.1 + s4)), (0, .int a0), (1, .int a1)]) d_X12_likelyOf_27 3 rfl rfl (Nat.le_of_ble_eq_true rfl) rfl ?_
      refine gm_goto (tgt := 4) d_X12_likelyOf_30 (by decide) ?_
      refine gm_sub (L' := [(0, .int a0), (1, .int a1), (2, .int (s1.1 + s4)), (3, .int (s1.2.1 + (1 : Int32)))]) [2, 3, 1, 0] rfl ?_
      exact gm_back (fun h => h)
    ·
      refine gm_icmp_gt (tgt := 24) d_X12_likelyOf_17 (by decide) (fun h17 => ?_) (fun h17 => ?_)
      ·
        refine gm_iconst (v := 0) d_X12_likelyOf_24 (by decide) ?_
        exact hj5 (0 : Int32)
      ·
        refine gm_iconst (v := 1) d_X12_likelyOf_20 (by decide) ?_
        refine gm_goto (tgt := 25) d_X12_likelyOf_21 (by decide) ?_
        exact hj5 (1 : Int32)
theorem d_X12_dare_0 : decode prog_14_method_57_code 0 = .ok (.aload_n 0, 1) := ge_aload_n_0 (by decide +kernel)
theorem d_X12_dare_1 : decode prog_14_method_57_code 1 = .ok (.iload_n 1, 1) := ge_iload_n_1 (by decide +kernel)
theorem d_X12_dare_2 : decode prog_14_method_57_code 2 = .ok (.invokevirtual 154, 3) := ge_invokevirtual (by decide +kernel)
theorem d_X12_dare_5 : decode prog_14_method_57_code 5 = .ok (.ifCond .ne 5, 3) := ge_ifCond_ne (by decide +kernel)
theorem d_X12_dare_8 : decode prog_14_method_57_code 8 = .ok (.iconst (-1), 1) := ge_iconst_m1_ (by decide +kernel)
theorem d_X12_dare_9 : decode prog_14_method_57_code 9 = .ok (.ireturn, 1) := ge_ireturn (by decide +kernel)
theorem d_X12_dare_10 : decode prog_14_method_57_code 10 = .ok (.aload_n 0, 1) := ge_aload_n_0 (by decide +kernel)
theorem d_X12_dare_11 : decode prog_14_method_57_code 11 = .ok (.iload_n 1, 1) := ge_iload_n_1 (by decide +kernel)
theorem d_X12_dare_12 : decode prog_14_method_57_code 12 = .ok (.invokevirtual 148, 3) := ge_invokevirtual (by decide +kernel)
theorem d_X12_dare_15 : decode prog_14_method_57_code 15 = .ok (.istore_n 2, 1) := ge_istore_n_2 (by decide +kernel)
theorem d_X12_dare_16 : decode prog_14_method_57_code 16 = .ok (.iconst 0, 1) := ge_iconst_0 (by decide +kernel)
theorem d_X12_dare_17 : decode prog_14_method_57_code 17 = .ok (.istore_n 3, 1) := ge_istore_n_3 (by decide +kernel)
theorem d_X12_dare_18 : decode prog_14_method_57_code 18 = .ok (.iconst (-1), 1) := ge_iconst_m1_ (by decide +kernel)
theorem d_X12_dare_19 : decode prog_14_method_57_code 19 = .ok (.istore 4, 2) := ge_istore (by decide +kernel)
theorem d_X12_dare_21 : decode prog_14_method_57_code 21 = .ok (.iconst 0, 1) := ge_iconst_0 (by decide +kernel)
theorem d_X12_dare_22 : decode prog_14_method_57_code 22 = .ok (.istore 5, 2) := ge_istore (by decide +kernel)
theorem d_X12_dare_24 : decode prog_14_method_57_code 24 = .ok (.iload 5, 2) := ge_iload (by decide +kernel)
theorem d_X12_dare_26 : decode prog_14_method_57_code 26 = .ok (.sipush 1000, 3) := ge_sipush (by decide +kernel)
theorem d_X12_dare_29 : decode prog_14_method_57_code 29 = .ok (.if_icmp .ge 50, 3) := ge_if_icmp_ge (by decide +kernel)
theorem d_X12_dare_32 : decode prog_14_method_57_code 32 = .ok (.iload 5, 2) := ge_iload (by decide +kernel)
theorem d_X12_dare_34 : decode prog_14_method_57_code 34 = .ok (.iload_n 2, 1) := ge_iload_n_2 (by decide +kernel)
theorem d_X12_dare_35 : decode prog_14_method_57_code 35 = .ok (.iload 5, 2) := ge_iload (by decide +kernel)
theorem d_X12_dare_37 : decode prog_14_method_57_code 37 = .ok (.invokestatic 209, 3) := ge_invokestatic (by decide +kernel)
theorem d_X12_dare_40 : decode prog_14_method_57_code 40 = .ok (.imul, 1) := ge_imul (by decide +kernel)
theorem d_X12_dare_41 : decode prog_14_method_57_code 41 = .ok (.istore 6, 2) := ge_istore (by decide +kernel)
theorem d_X12_dare_43 : decode prog_14_method_57_code 43 = .ok (.iload 6, 2) := ge_iload (by decide +kernel)
theorem d_X12_dare_45 : decode prog_14_method_57_code 45 = .ok (.iload 4, 2) := ge_iload (by decide +kernel)
theorem d_X12_dare_47 : decode prog_14_method_57_code 47 = .ok (.if_icmp .le 8, 3) := ge_if_icmp_le (by decide +kernel)
theorem d_X12_dare_50 : decode prog_14_method_57_code 50 = .ok (.iload 5, 2) := ge_iload (by decide +kernel)
theorem d_X12_dare_52 : decode prog_14_method_57_code 52 = .ok (.goto 4, 3) := ge_goto (by decide +kernel)
theorem d_X12_dare_55 : decode prog_14_method_57_code 55 = .ok (.iload_n 3, 1) := ge_iload_n_3 (by decide +kernel)
theorem d_X12_dare_56 : decode prog_14_method_57_code 56 = .ok (.istore_n 3, 1) := ge_istore_n_3 (by decide +kernel)
theorem d_X12_dare_57 : decode prog_14_method_57_code 57 = .ok (.iload 6, 2) := ge_iload (by decide +kernel)
theorem d_X12_dare_59 : decode prog_14_method_57_code 59 = .ok (.iload 4, 2) := ge_iload (by decide +kernel)
theorem d_X12_dare_61 : decode prog_14_method_57_code 61 = .ok (.if_icmp .le 8, 3) := ge_if_icmp_le (by decide +kernel)
theorem d_X12_dare_64 : decode prog_14_method_57_code 64 = .ok (.iload 6, 2) := ge_iload (by decide +kernel)
theorem d_X12_dare_66 : decode prog_14_method_57_code 66 = .ok (.goto 5, 3) := ge_goto (by decide +kernel)
theorem d_X12_dare_69 : decode prog_14_method_57_code 69 = .ok (.iload 4, 2) := ge_iload (by decide +kernel)
theorem d_X12_dare_71 : decode prog_14_method_57_code 71 = .ok (.istore 4, 2) := ge_istore (by decide +kernel)
theorem d_X12_dare_73 : decode prog_14_method_57_code 73 = .ok (.iinc 5 1, 3) := ge_iinc (by decide +kernel)
theorem d_X12_dare_76 : decode prog_14_method_57_code 76 = .ok (.goto (-52), 3) := ge_goto (by decide +kernel)
theorem d_X12_dare_79 : decode prog_14_method_57_code 79 = .ok (.iload_n 3, 1) := ge_iload_n_3 (by decide +kernel)
theorem d_X12_dare_80 : decode prog_14_method_57_code 80 = .ok (.ireturn, 1) := ge_ireturn (by decide +kernel)
def f_X12_dare (a0 : Nat) (a1 : Int32) (μ : gm_M) : Option (Option Value × gm_M) := if gm_tag μ a0 = 17 then gm_bI (f_X12_isChild a0 a1 μ) (fun x2 m1 => if x2 ≠ 0 then if gm_tag m1 a0 = 17 then gm_bI (f_X12_holdsOf a0 a1 m1) (fun x4 m3 => gm_loop (fun (s5 : Int32 × Int32 × Int32 × gm_M) => if (1000 : Int32) ≤ s5.2.2.1 then some (Sum.inr (some (.int s5.1), s5.2.2.2)) else gm_bI (f_X12_likelyOf x4 s5.2.2.1 s5.2.2.2) (fun x7 m6 => gm_j (fun (s8 : Int32) => gm_j (fun (s10 : Int32) => some (Sum.inl (s8, s10, (s5.2.2.1 + (1 : Int32)), m6))) (fun j11 => if (s5.2.2.1 * x7) ≤ s5.2.1 then j11 s5.2.1 else j11 (s5.2.2.1 * x7))) (fun j9 => if (s5.2.2.1 * x7) ≤ s5.2.1 then j9 s5.1 else j9 s5.2.2.1))) 5000 ((0 : Int32), (-1 : Int32), (0 : Int32), m3)) else none else some (some (.int (-1 : Int32)), m1)) else none
set_option maxHeartbeats 4000000 in
theorem c_X12_dare (a0 : Nat) (a1 : Int32) (μ : gm_M) : gm_Call ({ cls := "GumBubbleModel", name := "dare", desc := "(I)I" } : Jvm.MethodName) prog_14_method_57_code 7 (some .int) 4 0 0 [.ref a0, .int a1] μ (f_X12_dare a0 a1 μ) := by
  refine gm_start PN_12 (Nat.le_of_ble_eq_true rfl) (fun res μe => ?_)
  unfold f_X12_dare
  show gm_A "GumBubbleModel" (gm_nm "dare") _ _ _ _ _ _ _ _ _ 0 [(0, .ref a0), (1, .int a1)] [] _ _
  refine gm_aload_n d_X12_dare_0 rfl 0 rfl ?_
  refine gm_iload_n d_X12_dare_1 rfl 1 rfl ?_
  refine gm_grd (fun g2 => ?_)
  refine gm_callV (k0 := 12) [.int a1] (c_X12_isChild a0 a1 μ) g2 rfl B_X12_isChild gw_1047 gs_40 rfl rfl rfl d_X12_dare_2 (gm_kI (fun x2 m1 => ?_))
  refine gm_if_ne (tgt := 10) d_X12_dare_5 (by decide) (fun h5 => ?_) (fun h5 => ?_)
  ·
    refine gm_aload_n d_X12_dare_10 rfl 0 rfl ?_
    refine gm_iload_n d_X12_dare_11 rfl 1 rfl ?_
    refine gm_grd (fun g12 => ?_)
    refine gm_callV (k0 := 12) [.int a1] (c_X12_holdsOf a0 a1 m1) g12 rfl B_X12_holdsOf gw_1074 gs_45 rfl rfl rfl d_X12_dare_12 (gm_kI (fun x4 m3 => ?_))
    refine gm_istore_n (L' := [(2, .int x4), (0, .ref a0), (1, .int a1)]) d_X12_dare_15 rfl (Nat.le_of_ble_eq_true rfl) rfl ?_
    refine gm_iconst (v := 0) d_X12_dare_16 (by decide) ?_
    refine gm_istore_n (L' := [(3, .int (0 : Int32)), (2, .int x4), (0, .ref a0), (1, .int a1)]) d_X12_dare_17 rfl (Nat.le_of_ble_eq_true rfl) rfl ?_
    refine gm_iconst (v := -1) d_X12_dare_18 (by decide) ?_
    refine gm_istore (L' := [(4, .int (-1 : Int32)), (3, .int (0 : Int32)), (2, .int x4), (0, .ref a0), (1, .int a1)]) d_X12_dare_19 (Nat.le_of_ble_eq_true rfl) rfl ?_
    refine gm_iconst (v := 0) d_X12_dare_21 (by decide) ?_
    refine gm_istore (L' := [(5, .int (0 : Int32)), (4, .int (-1 : Int32)), (3, .int (0 : Int32)), (2, .int x4), (0, .ref a0), (1, .int a1)]) d_X12_dare_22 (Nat.le_of_ble_eq_true rfl) rfl ?_
    refine gm_sub (L' := [(0, .ref a0), (1, .int a1), (2, .int x4), (3, .int (0 : Int32)), (4, .int (-1 : Int32)), (5, .int (0 : Int32))]) [4, 5, 3, 2, 1, 0] rfl ?_
    refine gm_lp (S := Int32 × Int32 × Int32 × gm_M) (fun _ => 0) (fun _ => 0) (fun s5 => s5.2.2.2) (fun s5 => [(0, .ref a0), (1, .int a1), (2, .int x4), (3, .int s5.1), (4, .int s5.2.1), (5, .int s5.2.2.1)]) (fun _ => []) (fun s5 => ?_) 5000 ((0 : Int32), (-1 : Int32), (0 : Int32), m3)
    refine gm_iload d_X12_dare_24 5 rfl ?_
    refine gm_sipush (v := 1000) d_X12_dare_26 (by decide) ?_
    refine gm_icmp_ge (tgt := 79) d_X12_dare_29 (by decide) (fun h29 => ?_) (fun h29 => ?_)
    ·
      refine gm_iload_n d_X12_dare_79 rfl 3 rfl ?_
      exact gm_iret rfl d_X12_dare_80 (Nat.le_of_ble_eq_true rfl) (Nat.le_of_ble_eq_true rfl) (fun h => h)
    ·
      refine gm_iload d_X12_dare_32 5 rfl ?_
      refine gm_iload_n d_X12_dare_34 rfl 2 rfl ?_
      refine gm_iload d_X12_dare_35 5 rfl ?_
      refine gm_callS [.int x4, .int s5.2.2.1] (c_X12_likelyOf x4 s5.2.2.1 s5.2.2.2) B_X12_likelyOf gw_1171 rfl rfl rfl d_X12_dare_37 (gm_kI (fun x7 m6 => ?_))
      refine gm_imul d_X12_dare_40 ?_
      refine gm_istore (L' := [(6, .int (s5.2.2.1 * x7)), (0, .ref a0), (1, .int a1), (2, .int x4), (3, .int s5.1), (4, .int s5.2.1), (5, .int s5.2.2.1)]) d_X12_dare_41 (Nat.le_of_ble_eq_true rfl) rfl ?_
      refine gm_iload d_X12_dare_43 0 rfl ?_
      refine gm_iload d_X12_dare_45 5 rfl ?_
      refine gm_join (S := Int32) (pj := 56) (kj := 0) (nj := 0) (fun s8 => m6) (fun s8 => [(0, .ref a0), (1, .int a1), (2, .int x4), (3, .int s5.1), (4, .int s5.2.1), (5, .int s5.2.2.1), (6, .int (s5.2.2.1 * x7))]) (fun s8 => [.int s8]) (fun s8 => ?_) (fun j9 hj9 => ?_)
      ·
        refine gm_istore_n (L' := [(3, .int s8), (0, .ref a0), (1, .int a1), (2, .int x4), (4, .int s5.2.1), (5, .int s5.2.2.1), (6, .int (s5.2.2.1 * x7))]) d_X12_dare_56 rfl (Nat.le_of_ble_eq_true rfl) rfl ?_
        refine gm_iload d_X12_dare_57 6 rfl ?_
        refine gm_iload d_X12_dare_59 4 rfl ?_
        refine gm_join (S := Int32) (pj := 71) (kj := 0) (nj := 0) (fun s10 => m6) (fun s10 => [(0, .ref a0), (1, .int a1), (2, .int x4), (3, .int s8), (4, .int s5.2.1), (5, .int s5.2.2.1), (6, .int (s5.2.2.1 * x7))]) (fun s10 => [.int s10]) (fun s10 => ?_) (fun j11 hj11 => ?_)
        ·
          refine gm_istore (L' := [(4, .int s10), (0, .ref a0), (1, .int a1), (2, .int x4), (3, .int s8), (5, .int s5.2.2.1), (6, .int (s5.2.2.1 * x7))]) d_X12_dare_71 (Nat.le_of_ble_eq_true rfl) rfl ?_
          refine gm_iinc (v := s5.2.2.1 + (1 : Int32)) (L' := [(5, .int (s5.2.2.1 + (1 : Int32))), (4, .int s10), (0, .ref a0), (1, .int a1), (2, .int x4), (3, .int s8), (6, .int (s5.2.2.1 * x7))]) d_X12_dare_73 5 rfl rfl (Nat.le_of_ble_eq_true rfl) rfl ?_
          refine gm_goto (tgt := 24) d_X12_dare_76 (by decide) ?_
          refine gm_sub (L' := [(0, .ref a0), (1, .int a1), (2, .int x4), (3, .int s8), (4, .int s10), (5, .int (s5.2.2.1 + (1 : Int32)))]) [2, 3, 4, 5, 1, 0] rfl ?_
          exact gm_back (fun h => h)
        ·
          refine gm_icmp_le (tgt := 69) d_X12_dare_61 (by decide) (fun h61 => ?_) (fun h61 => ?_)
          ·
            refine gm_iload d_X12_dare_69 4 rfl ?_
            refine gm_sub (L' := [(0, .ref a0), (1, .int a1), (2, .int x4), (3, .int s8), (4, .int s5.2.1), (5, .int s5.2.2.1), (6, .int (s5.2.2.1 * x7))]) [1, 2, 3, 0, 4, 5, 6] rfl ?_
            exact hj11 s5.2.1
          ·
            refine gm_iload d_X12_dare_64 6 rfl ?_
            refine gm_goto (tgt := 71) d_X12_dare_66 (by decide) ?_
            refine gm_sub (L' := [(0, .ref a0), (1, .int a1), (2, .int x4), (3, .int s8), (4, .int s5.2.1), (5, .int s5.2.2.1), (6, .int (s5.2.2.1 * x7))]) [1, 2, 3, 0, 4, 5, 6] rfl ?_
            exact hj11 (s5.2.2.1 * x7)
      ·
        refine gm_icmp_le (tgt := 55) d_X12_dare_47 (by decide) (fun h47 => ?_) (fun h47 => ?_)
        ·
          refine gm_iload_n d_X12_dare_55 rfl 4 rfl ?_
          refine gm_sub (L' := [(0, .ref a0), (1, .int a1), (2, .int x4), (3, .int s5.1), (4, .int s5.2.1), (5, .int s5.2.2.1), (6, .int (s5.2.2.1 * x7))]) [1, 2, 3, 4, 5, 6, 0] rfl ?_
          exact hj9 s5.1
        ·
          refine gm_iload d_X12_dare_50 6 rfl ?_
          refine gm_goto (tgt := 56) d_X12_dare_52 (by decide) ?_
          refine gm_sub (L' := [(0, .ref a0), (1, .int a1), (2, .int x4), (3, .int s5.1), (4, .int s5.2.1), (5, .int s5.2.2.1), (6, .int (s5.2.2.1 * x7))]) [1, 2, 3, 4, 5, 6, 0] rfl ?_
          exact hj9 s5.2.2.1
  ·
    refine gm_iconst (v := -1) d_X12_dare_8 (by decide) ?_
    exact gm_iret rfl d_X12_dare_9 (Nat.le_of_ble_eq_true rfl) (Nat.le_of_ble_eq_true rfl) (fun h => h)
theorem d_X12_does_0 : decode prog_14_method_74_code 0 = .ok (.iload_n 1, 1) := ge_iload_n_1 (by decide +kernel)
theorem d_X12_does_1 : decode prog_14_method_74_code 1 = .ok (.tableswitch 123 0 2 #[27, 34, 91], 27) := by decide +kernel
theorem d_X12_does_28 : decode prog_14_method_74_code 28 = .ok (.aload_n 0, 1) := ge_aload_n_0 (by decide +kernel)
theorem d_X12_does_29 : decode prog_14_method_74_code 29 = .ok (.invokevirtual 177, 3) := ge_invokevirtual (by decide +kernel)
theorem d_X12_does_32 : decode prog_14_method_74_code 32 = .ok (.goto 111, 3) := ge_goto (by decide +kernel)
theorem d_X12_does_35 : decode prog_14_method_74_code 35 = .ok (.aload_n 0, 1) := ge_aload_n_0 (by decide +kernel)
theorem d_X12_does_36 : decode prog_14_method_74_code 36 = .ok (.getfield 9, 3) := ge_getfield (by decide +kernel)
theorem d_X12_does_39 : decode prog_14_method_74_code 39 = .ok (.iconst 1, 1) := ge_iconst_1 (by decide +kernel)
theorem d_X12_does_40 : decode prog_14_method_74_code 40 = .ok (.iload_n 2, 1) := ge_iload_n_2 (by decide +kernel)
theorem d_X12_does_41 : decode prog_14_method_74_code 41 = .ok (.iadd, 1) := ge_iadd (by decide +kernel)
theorem d_X12_does_42 : decode prog_14_method_74_code 42 = .ok (.aload_n 0, 1) := ge_aload_n_0 (by decide +kernel)
theorem d_X12_does_43 : decode prog_14_method_74_code 43 = .ok (.getfield 9, 3) := ge_getfield (by decide +kernel)
theorem d_X12_does_46 : decode prog_14_method_74_code 46 = .ok (.iconst 1, 1) := ge_iconst_1 (by decide +kernel)
theorem d_X12_does_47 : decode prog_14_method_74_code 47 = .ok (.iload_n 2, 1) := ge_iload_n_2 (by decide +kernel)
theorem d_X12_does_48 : decode prog_14_method_74_code 48 = .ok (.iadd, 1) := ge_iadd (by decide +kernel)
theorem d_X12_does_49 : decode prog_14_method_74_code 49 = .ok (.iaload, 1) := ge_iaload (by decide +kernel)
theorem d_X12_does_50 : decode prog_14_method_74_code 50 = .ok (.iconst 1, 1) := ge_iconst_1 (by decide +kernel)
theorem d_X12_does_51 : decode prog_14_method_74_code 51 = .ok (.iadd, 1) := ge_iadd (by decide +kernel)
theorem d_X12_does_52 : decode prog_14_method_74_code 52 = .ok (.iconst 0, 1) := ge_iconst_0 (by decide +kernel)
theorem d_X12_does_53 : decode prog_14_method_74_code 53 = .ok (.bipush 6, 2) := ge_bipush (by decide +kernel)
theorem d_X12_does_55 : decode prog_14_method_74_code 55 = .ok (.invokestatic 138, 3) := ge_invokestatic (by decide +kernel)
theorem d_X12_does_58 : decode prog_14_method_74_code 58 = .ok (.iastore, 1) := ge_iastore (by decide +kernel)
theorem d_X12_does_59 : decode prog_14_method_74_code 59 = .ok (.aload_n 0, 1) := ge_aload_n_0 (by decide +kernel)
theorem d_X12_does_60 : decode prog_14_method_74_code 60 = .ok (.getfield 9, 3) := ge_getfield (by decide +kernel)
theorem d_X12_does_63 : decode prog_14_method_74_code 63 = .ok (.bipush 6, 2) := ge_bipush (by decide +kernel)
theorem d_X12_does_65 : decode prog_14_method_74_code 65 = .ok (.iload_n 2, 1) := ge_iload_n_2 (by decide +kernel)
theorem d_X12_does_66 : decode prog_14_method_74_code 66 = .ok (.iadd, 1) := ge_iadd (by decide +kernel)
theorem d_X12_does_67 : decode prog_14_method_74_code 67 = .ok (.aload_n 0, 1) := ge_aload_n_0 (by decide +kernel)
theorem d_X12_does_68 : decode prog_14_method_74_code 68 = .ok (.getfield 9, 3) := ge_getfield (by decide +kernel)
theorem d_X12_does_71 : decode prog_14_method_74_code 71 = .ok (.bipush 6, 2) := ge_bipush (by decide +kernel)
theorem d_X12_does_73 : decode prog_14_method_74_code 73 = .ok (.iload_n 2, 1) := ge_iload_n_2 (by decide +kernel)
theorem d_X12_does_74 : decode prog_14_method_74_code 74 = .ok (.iadd, 1) := ge_iadd (by decide +kernel)
theorem d_X12_does_75 : decode prog_14_method_74_code 75 = .ok (.iaload, 1) := ge_iaload (by decide +kernel)
theorem d_X12_does_76 : decode prog_14_method_74_code 76 = .ok (.aload_n 0, 1) := ge_aload_n_0 (by decide +kernel)
theorem d_X12_does_77 : decode prog_14_method_74_code 77 = .ok (.invokevirtual 151, 3) := ge_invokevirtual (by decide +kernel)
theorem d_X12_does_80 : decode prog_14_method_74_code 80 = .ok (.iadd, 1) := ge_iadd (by decide +kernel)
theorem d_X12_does_81 : decode prog_14_method_74_code 81 = .ok (.iconst 0, 1) := ge_iconst_0 (by decide +kernel)
theorem d_X12_does_82 : decode prog_14_method_74_code 82 = .ok (.sipush 999, 3) := ge_sipush (by decide +kernel)
theorem d_X12_does_85 : decode prog_14_method_74_code 85 = .ok (.invokestatic 138, 3) := ge_invokestatic (by decide +kernel)
theorem d_X12_does_88 : decode prog_14_method_74_code 88 = .ok (.iastore, 1) := ge_iastore (by decide +kernel)
theorem d_X12_does_89 : decode prog_14_method_74_code 89 = .ok (.goto 54, 3) := ge_goto (by decide +kernel)
theorem d_X12_does_92 : decode prog_14_method_74_code 92 = .ok (.aload_n 0, 1) := ge_aload_n_0 (by decide +kernel)
theorem d_X12_does_93 : decode prog_14_method_74_code 93 = .ok (.getfield 9, 3) := ge_getfield (by decide +kernel)
theorem d_X12_does_96 : decode prog_14_method_74_code 96 = .ok (.iconst 1, 1) := ge_iconst_1 (by decide +kernel)
theorem d_X12_does_97 : decode prog_14_method_74_code 97 = .ok (.iload_n 2, 1) := ge_iload_n_2 (by decide +kernel)
theorem d_X12_does_98 : decode prog_14_method_74_code 98 = .ok (.iadd, 1) := ge_iadd (by decide +kernel)
theorem d_X12_does_99 : decode prog_14_method_74_code 99 = .ok (.iconst 0, 1) := ge_iconst_0 (by decide +kernel)
theorem d_X12_does_100 : decode prog_14_method_74_code 100 = .ok (.iastore, 1) := ge_iastore (by decide +kernel)
theorem d_X12_does_101 : decode prog_14_method_74_code 101 = .ok (.aload_n 0, 1) := ge_aload_n_0 (by decide +kernel)
theorem d_X12_does_102 : decode prog_14_method_74_code 102 = .ok (.getfield 9, 3) := ge_getfield (by decide +kernel)
theorem d_X12_does_105 : decode prog_14_method_74_code 105 = .ok (.bipush 6, 2) := ge_bipush (by decide +kernel)
theorem d_X12_does_107 : decode prog_14_method_74_code 107 = .ok (.iload_n 2, 1) := ge_iload_n_2 (by decide +kernel)
theorem d_X12_does_108 : decode prog_14_method_74_code 108 = .ok (.iadd, 1) := ge_iadd (by decide +kernel)
theorem d_X12_does_109 : decode prog_14_method_74_code 109 = .ok (.iconst 0, 1) := ge_iconst_0 (by decide +kernel)
theorem d_X12_does_110 : decode prog_14_method_74_code 110 = .ok (.iastore, 1) := ge_iastore (by decide +kernel)
theorem d_X12_does_111 : decode prog_14_method_74_code 111 = .ok (.aload_n 0, 1) := ge_aload_n_0 (by decide +kernel)
theorem d_X12_does_112 : decode prog_14_method_74_code 112 = .ok (.getfield 9, 3) := ge_getfield (by decide +kernel)
theorem d_X12_does_115 : decode prog_14_method_74_code 115 = .ok (.bipush 16, 2) := ge_bipush (by decide +kernel)
theorem d_X12_does_117 : decode prog_14_method_74_code 117 = .ok (.iload_n 2, 1) := ge_iload_n_2 (by decide +kernel)
theorem d_X12_does_118 : decode prog_14_method_74_code 118 = .ok (.iadd, 1) := ge_iadd (by decide +kernel)
theorem d_X12_does_119 : decode prog_14_method_74_code 119 = .ok (.iconst 0, 1) := ge_iconst_0 (by decide +kernel)
theorem d_X12_does_120 : decode prog_14_method_74_code 120 = .ok (.iastore, 1) := ge_iastore (by decide +kernel)
theorem d_X12_does_121 : decode prog_14_method_74_code 121 = .ok (.goto 22, 3) := ge_goto (by decide +kernel)
theorem d_X12_does_124 : decode prog_14_method_74_code 124 = .ok (.aload_n 0, 1) := ge_aload_n_0 (by decide +kernel)
theorem d_X12_does_125 : decode prog_14_method_74_code 125 = .ok (.getfield 9, 3) := ge_getfield (by decide +kernel)
theorem d_X12_does_128 : decode prog_14_method_74_code 128 = .ok (.iconst 1, 1) := ge_iconst_1 (by decide +kernel)
theorem d_X12_does_129 : decode prog_14_method_74_code 129 = .ok (.iload_n 2, 1) := ge_iload_n_2 (by decide +kernel)
theorem d_X12_does_130 : decode prog_14_method_74_code 130 = .ok (.iadd, 1) := ge_iadd (by decide +kernel)
theorem d_X12_does_131 : decode prog_14_method_74_code 131 = .ok (.iaload, 1) := ge_iaload (by decide +kernel)
theorem d_X12_does_132 : decode prog_14_method_74_code 132 = .ok (.ifCond .le 11, 3) := ge_ifCond_le (by decide +kernel)
theorem d_X12_does_135 : decode prog_14_method_74_code 135 = .ok (.aload_n 0, 1) := ge_aload_n_0 (by decide +kernel)
theorem d_X12_does_136 : decode prog_14_method_74_code 136 = .ok (.iload_n 2, 1) := ge_iload_n_2 (by decide +kernel)
theorem d_X12_does_137 : decode prog_14_method_74_code 137 = .ok (.bipush 10, 2) := ge_bipush (by decide +kernel)
theorem d_X12_does_139 : decode prog_14_method_74_code 139 = .ok (.invokevirtual 170, 3) := ge_invokevirtual (by decide +kernel)
theorem d_X12_does_142 : decode prog_14_method_74_code 142 = .ok (.pop, 1) := ge_pop (by decide +kernel)
theorem d_X12_does_143 : decode prog_14_method_74_code 143 = .ok (.return_, 1) := ge_return_ (by decide +kernel)
def f_X12_does (a0 : Nat) (a1 : Int32) (a2 : Int32) (μ : gm_M) : Option (Option Value × gm_M) := if a1 = 0 then if gm_tag μ a0 = 17 then gm_bV (f_X12_goes a0 μ) (fun m1 => some (none, m1)) else none else if a1 = 1 then gm_gR μ [17] a0 1 (fun v3 => gm_gR μ [17] a0 1 (fun v4 => gm_aI μ v4 ((1 : Int32) + a2) (fun v5 => gm_bI (f_X12_within (v5 + (1 : Int32)) (0 : Int32) (6 : Int32) μ) (fun x7 m6 => gm_sI m6 v3 ((1 : Int32) + a2) x7 (fun m8 => gm_gR m8 [17] a0 1 (fun v9 => gm_gR m8 [17] a0 1 (fun v10 => gm_aI m8 v10 ((6 : Int32) + a2) (fun v11 => if gm_tag m8 a0 = 17 then gm_bI (f_X12_sweetNow a0 m8) (fun x13 m12 => gm_bI (f_X12_within (v11 + x13) (0 : Int32) (999 : Int32) m12) (fun x15 m14 => gm_sI m14 v9 ((6 : Int32) + a2) x15 (fun m16 => some (none, m16)))) else none)))))))) else if a1 = 2 then gm_gR μ [17] a0 1 (fun v17 => gm_sI μ v17 ((1 : Int32) + a2) (0 : Int32) (fun m18 => gm_gR m18 [17] a0 1 (fun v19 => gm_sI m18 v19 ((6 : Int32) + a2) (0 : Int32) (fun m20 => gm_gR m20 [17] a0 1 (fun v21 => gm_sI m20 v21 ((16 : Int32) + a2) (0 : Int32) (fun m22 => some (none, m22))))))) else gm_gR μ [17] a0 1 (fun v23 => gm_aI μ v23 ((1 : Int32) + a2) (fun v24 => if v24 ≤ 0 then some (none, μ) else if gm_tag μ a0 = 17 then gm_bI (f_X12_blows a0 a2 (10 : Int32) μ) (fun x26 m25 => some (none, m25)) else none))
set_option maxHeartbeats 4000000 in
theorem c_X12_does (a0 : Nat) (a1 : Int32) (a2 : Int32) (μ : gm_M) : gm_Call ({ cls := "GumBubbleModel", name := "does", desc := "(II)V" } : Jvm.MethodName) prog_14_method_74_code 3 none 5 0 0 [.ref a0, .int a1, .int a2] μ (f_X12_does a0 a1 a2 μ) := by
  refine gm_start PN_12 (Nat.le_of_ble_eq_true rfl) (fun res μe => ?_)
  unfold f_X12_does
  show gm_A "GumBubbleModel" (gm_nm "does") _ _ _ _ _ _ _ _ _ 0 [(0, .ref a0), (1, .int a1), (2, .int a2)] [] _ _
  refine gm_iload_n d_X12_does_0 rfl 1 rfl ?_
  refine gm_ite (P := a1 = 0) (fun h1_0 => ?_) (fun h1_0 => ?_)
  ·
    refine gm_swIn (v := 0) (off := 27) (tgt := 28) d_X12_does_1 (by rw [h1_0] <;> rfl) (by decide) (by decide) (by decide) (by decide) ?_
    refine gm_aload_n d_X12_does_28 rfl 0 rfl ?_
    refine gm_grd (fun g29 => ?_)
    refine gm_callV (k0 := 12) [] (c_X12_goes a0 μ) g29 rfl B_X12_goes gw_1114 gs_50 rfl rfl rfl d_X12_does_29 (gm_kV (fun m1 => ?_))
    refine gm_goto (tgt := 143) d_X12_does_32 (by decide) ?_
    exact gm_vret rfl d_X12_does_143 (Nat.le_of_ble_eq_true rfl) (Nat.le_of_ble_eq_true rfl) (fun h => h)
  ·
    refine gm_ite (P := a1 = 1) (fun h1_1 => ?_) (fun h1_1 => ?_)
    ·
      refine gm_swIn (v := 1) (off := 34) (tgt := 35) d_X12_does_1 (by rw [h1_1] <;> rfl) (by decide) (by decide) (by decide) (by decide) ?_
      refine gm_aload_n d_X12_does_35 rfl 0 rfl ?_
      refine gm_getR F_12_s gw_890 d_X12_does_36 (fun v3 _ => ?_)
      refine gm_iconst (v := 1) d_X12_does_39 (by decide) ?_
      refine gm_iload_n d_X12_does_40 rfl 2 rfl ?_
      refine gm_iadd d_X12_does_41 ?_
      refine gm_aload_n d_X12_does_42 rfl 0 rfl ?_
      refine gm_getR F_12_s gw_890 d_X12_does_43 (fun v4 _ => ?_)
      refine gm_iconst (v := 1) d_X12_does_46 (by decide) ?_
      refine gm_iload_n d_X12_does_47 rfl 2 rfl ?_
      refine gm_iadd d_X12_does_48 ?_
      refine gm_iald d_X12_does_49 (fun v5 _ => ?_)
      refine gm_iconst (v := 1) d_X12_does_50 (by decide) ?_
      refine gm_iadd d_X12_does_51 ?_
      refine gm_iconst (v := 0) d_X12_does_52 (by decide) ?_
      refine gm_bipush (v := 6) d_X12_does_53 (by decide) ?_
      refine gm_callS [.int (v5 + (1 : Int32)), .int (0 : Int32), .int (6 : Int32)] (c_X12_within (v5 + (1 : Int32)) (0 : Int32) (6 : Int32) μ) B_X12_within gw_1060 rfl rfl rfl d_X12_does_55 (gm_kI (fun x7 m6 => ?_))
      refine gm_iast d_X12_does_58 (fun m8 _ => ?_)
      refine gm_aload_n d_X12_does_59 rfl 0 rfl ?_
      refine gm_getR F_12_s gw_890 d_X12_does_60 (fun v9 _ => ?_)
      refine gm_bipush (v := 6) d_X12_does_63 (by decide) ?_
      refine gm_iload_n d_X12_does_65 rfl 2 rfl ?_
      refine gm_iadd d_X12_does_66 ?_
      refine gm_aload_n d_X12_does_67 rfl 0 rfl ?_
      refine gm_getR F_12_s gw_890 d_X12_does_68 (fun v10 _ => ?_)
      refine gm_bipush (v := 6) d_X12_does_71 (by decide) ?_
      refine gm_iload_n d_X12_does_73 rfl 2 rfl ?_
      refine gm_iadd d_X12_does_74 ?_
      refine gm_iald d_X12_does_75 (fun v11 _ => ?_)
      refine gm_aload_n d_X12_does_76 rfl 0 rfl ?_
      refine gm_grd (fun g77 => ?_)
      refine gm_callV (k0 := 12) [] (c_X12_sweetNow a0 m8) g77 rfl B_X12_sweetNow gw_1035 gs_38 rfl rfl rfl d_X12_does_77 (gm_kI (fun x13 m12 => ?_))
      refine gm_iadd d_X12_does_80 ?_
      refine gm_iconst (v := 0) d_X12_does_81 (by decide) ?_
      refine gm_sipush (v := 999) d_X12_does_82 (by decide) ?_
      refine gm_callS [.int (v11 + x13), .int (0 : Int32), .int (999 : Int32)] (c_X12_within (v11 + x13) (0 : Int32) (999 : Int32) m12) B_X12_within gw_1060 rfl rfl rfl d_X12_does_85 (gm_kI (fun x15 m14 => ?_))
      refine gm_iast d_X12_does_88 (fun m16 _ => ?_)
      refine gm_goto (tgt := 143) d_X12_does_89 (by decide) ?_
      exact gm_vret rfl d_X12_does_143 (Nat.le_of_ble_eq_true rfl) (Nat.le_of_ble_eq_true rfl) (fun h => h)
    ·
      refine gm_ite (P := a1 = 2) (fun h1_2 => ?_) (fun h1_2 => ?_)
      ·
        refine gm_swIn (v := 2) (off := 91) (tgt := 92) d_X12_does_1 (by rw [h1_2] <;> rfl) (by decide) (by decide) (by decide) (by decide) ?_
        refine gm_aload_n d_X12_does_92 rfl 0 rfl ?_
        refine gm_getR F_12_s gw_890 d_X12_does_93 (fun v17 _ => ?_)
        refine gm_iconst (v := 1) d_X12_does_96 (by decide) ?_
        refine gm_iload_n d_X12_does_97 rfl 2 rfl ?_
        refine gm_iadd d_X12_does_98 ?_
        refine gm_iconst (v := 0) d_X12_does_99 (by decide) ?_
        refine gm_iast d_X12_does_100 (fun m18 _ => ?_)
        refine gm_aload_n d_X12_does_101 rfl 0 rfl ?_
        refine gm_getR F_12_s gw_890 d_X12_does_102 (fun v19 _ => ?_)
        refine gm_bipush (v := 6) d_X12_does_105 (by decide) ?_
        refine gm_iload_n d_X12_does_107 rfl 2 rfl ?_
        refine gm_iadd d_X12_does_108 ?_
        refine gm_iconst (v := 0) d_X12_does_109 (by decide) ?_
        refine gm_iast d_X12_does_110 (fun m20 _ => ?_)
        refine gm_aload_n d_X12_does_111 rfl 0 rfl ?_
        refine gm_getR F_12_s gw_890 d_X12_does_112 (fun v21 _ => ?_)
        refine gm_bipush (v := 16) d_X12_does_115 (by decide) ?_
        refine gm_iload_n d_X12_does_117 rfl 2 rfl ?_
        refine gm_iadd d_X12_does_118 ?_
        refine gm_iconst (v := 0) d_X12_does_119 (by decide) ?_
        refine gm_iast d_X12_does_120 (fun m22 _ => ?_)
        refine gm_goto (tgt := 143) d_X12_does_121 (by decide) ?_
        exact gm_vret rfl d_X12_does_143 (Nat.le_of_ble_eq_true rfl) (Nat.le_of_ble_eq_true rfl) (fun h => h)
      ·
        refine gm_swOut (tgt := 124) d_X12_does_1 (by have g0 := lv_neT h1_0 (show (0 : Int32).toInt = 0 from rfl); have g1 := lv_neT h1_1 (show (1 : Int32).toInt = 1 from rfl); have g2 := lv_neT h1_2 (show (2 : Int32).toInt = 2 from rfl); omega) (by decide) ?_
        refine gm_aload_n d_X12_does_124 rfl 0 rfl ?_
        refine gm_getR F_12_s gw_890 d_X12_does_125 (fun v23 _ => ?_)
        refine gm_iconst (v := 1) d_X12_does_128 (by decide) ?_
        refine gm_iload_n d_X12_does_129 rfl 2 rfl ?_
        refine gm_iadd d_X12_does_130 ?_
        refine gm_iald d_X12_does_131 (fun v24 _ => ?_)
        refine gm_if_le (tgt := 143) d_X12_does_132 (by decide) (fun h132 => ?_) (fun h132 => ?_)
        ·
          exact gm_vret rfl d_X12_does_143 (Nat.le_of_ble_eq_true rfl) (Nat.le_of_ble_eq_true rfl) (fun h => h)
        ·
          refine gm_aload_n d_X12_does_135 rfl 0 rfl ?_
          refine gm_iload_n d_X12_does_136 rfl 2 rfl ?_
          refine gm_bipush (v := 10) d_X12_does_137 (by decide) ?_
          refine gm_grd (fun g139 => ?_)
          refine gm_callV (k0 := 12) [.int a2, .int (10 : Int32)] (c_X12_blows a0 a2 (10 : Int32) μ) g139 rfl B_X12_blows gw_1102 gs_48 rfl rfl rfl d_X12_does_139 (gm_kI (fun x26 m25 => ?_))
          refine gm_pop d_X12_does_142 rfl ?_
          exact gm_vret rfl d_X12_does_143 (Nat.le_of_ble_eq_true rfl) (Nat.le_of_ble_eq_true rfl) (fun h => h)
theorem d_X12_keeps_0 : decode prog_14_method_7_code 0 = .ok (.iconst 0, 1) := ge_iconst_0 (by decide +kernel)
theorem d_X12_keeps_1 : decode prog_14_method_7_code 1 = .ok (.istore_n 1, 1) := ge_istore_n_1 (by decide +kernel)
theorem d_X12_keeps_2 : decode prog_14_method_7_code 2 = .ok (.iload_n 1, 1) := ge_iload_n_1 (by decide +kernel)
theorem d_X12_keeps_3 : decode prog_14_method_7_code 3 = .ok (.bipush 26, 2) := ge_bipush (by decide +kernel)
theorem d_X12_keeps_5 : decode prog_14_method_7_code 5 = .ok (.if_icmp .ge 21, 3) := ge_if_icmp_ge (by decide +kernel)
theorem d_X12_keeps_8 : decode prog_14_method_7_code 8 = .ok (.aload_n 0, 1) := ge_aload_n_0 (by decide +kernel)
theorem d_X12_keeps_9 : decode prog_14_method_7_code 9 = .ok (.getfield 18, 3) := ge_getfield (by decide +kernel)
theorem d_X12_keeps_12 : decode prog_14_method_7_code 12 = .ok (.iload_n 1, 1) := ge_iload_n_1 (by decide +kernel)
theorem d_X12_keeps_13 : decode prog_14_method_7_code 13 = .ok (.aload_n 0, 1) := ge_aload_n_0 (by decide +kernel)
theorem d_X12_keeps_14 : decode prog_14_method_7_code 14 = .ok (.getfield 9, 3) := ge_getfield (by decide +kernel)
theorem d_X12_keeps_17 : decode prog_14_method_7_code 17 = .ok (.iload_n 1, 1) := ge_iload_n_1 (by decide +kernel)
theorem d_X12_keeps_18 : decode prog_14_method_7_code 18 = .ok (.iaload, 1) := ge_iaload (by decide +kernel)
theorem d_X12_keeps_19 : decode prog_14_method_7_code 19 = .ok (.iastore, 1) := ge_iastore (by decide +kernel)
theorem d_X12_keeps_20 : decode prog_14_method_7_code 20 = .ok (.iinc 1 1, 3) := ge_iinc (by decide +kernel)
theorem d_X12_keeps_23 : decode prog_14_method_7_code 23 = .ok (.goto (-21), 3) := ge_goto (by decide +kernel)
theorem d_X12_keeps_26 : decode prog_14_method_7_code 26 = .ok (.return_, 1) := ge_return_ (by decide +kernel)
def f_X12_keeps (a0 : Nat) (μ : gm_M) : Option (Option Value × gm_M) := gm_loop (fun (s1 : Int32 × gm_M) => if (26 : Int32) ≤ s1.1 then some (Sum.inr (none, s1.2)) else gm_gR s1.2 [17] a0 3 (fun v2 => gm_gR s1.2 [17] a0 1 (fun v3 => gm_aI s1.2 v3 s1.1 (fun v4 => gm_sI s1.2 v2 s1.1 v4 (fun m5 => some (Sum.inl ((s1.1 + (1 : Int32)), m5))))))) 5000 ((0 : Int32), μ)
set_option maxHeartbeats 4000000 in
theorem c_X12_keeps (a0 : Nat) (μ : gm_M) : gm_Call ({ cls := "GumBubbleModel", name := "keeps", desc := "()V" } : Jvm.MethodName) prog_14_method_7_code 2 none 0 0 0 [.ref a0] μ (f_X12_keeps a0 μ) := by
  refine gm_start PN_12 (Nat.le_of_ble_eq_true rfl) (fun res μe => ?_)
  unfold f_X12_keeps
  show gm_A "GumBubbleModel" (gm_nm "keeps") _ _ _ _ _ _ _ _ _ 0 [(0, .ref a0)] [] _ _
  refine gm_iconst (v := 0) d_X12_keeps_0 (by decide) ?_
  refine gm_istore_n (L' := [(1, .int (0 : Int32)), (0, .ref a0)]) d_X12_keeps_1 rfl (Nat.le_of_ble_eq_true rfl) rfl ?_
  refine gm_sub (L' := [(0, .ref a0), (1, .int (0 : Int32))]) [1, 0] rfl ?_
  refine gm_lp (S := Int32 × gm_M) (fun _ => 0) (fun _ => 0) (fun s1 => s1.2) (fun s1 => [(0, .ref a0), (1, .int s1.1)]) (fun _ => []) (fun s1 => ?_) 5000 ((0 : Int32), μ)
  refine gm_iload_n d_X12_keeps_2 rfl 1 rfl ?_
  refine gm_bipush (v := 26) d_X12_keeps_3 (by decide) ?_
  refine gm_icmp_ge (tgt := 26) d_X12_keeps_5 (by decide) (fun h5 => ?_) (fun h5 => ?_)
  ·
    exact gm_vret rfl d_X12_keeps_26 (Nat.le_of_ble_eq_true rfl) (Nat.le_of_ble_eq_true rfl) (fun h => h)
  ·
    refine gm_aload_n d_X12_keeps_8 rfl 0 rfl ?_
    refine gm_getR F_12_frame gw_892 d_X12_keeps_9 (fun v2 _ => ?_)
    refine gm_iload_n d_X12_keeps_12 rfl 1 rfl ?_
    refine gm_aload_n d_X12_keeps_13 rfl 0 rfl ?_
    refine gm_getR F_12_s gw_890 d_X12_keeps_14 (fun v3 _ => ?_)
    refine gm_iload_n d_X12_keeps_17 rfl 1 rfl ?_
    refine gm_iald d_X12_keeps_18 (fun v4 _ => ?_)
    refine gm_iast d_X12_keeps_19 (fun m5 _ => ?_)
    refine gm_iinc (v := s1.1 + (1 : Int32)) (L' := [(1, .int (s1.1 + (1 : Int32))), (0, .ref a0)]) d_X12_keeps_20 1 rfl rfl (Nat.le_of_ble_eq_true rfl) rfl ?_
    refine gm_goto (tgt := 2) d_X12_keeps_23 (by decide) ?_
    refine gm_sub (L' := [(0, .ref a0), (1, .int (s1.1 + (1 : Int32)))]) [1, 0] rfl ?_
    exact gm_back (fun h => h)
