section
theorem d_J0_isLatin1_aae02_0 : decode prog_17_method_154_code 0 = .ok (.getstatic 38, 3) := ge_getstatic (by decide +kernel)
theorem d_J0_isLatin1_aae02_3 : decode prog_17_method_154_code 3 = .ok (.ifCond .eq 14, 3) := ge_ifCond_eq (by decide +kernel)
theorem d_J0_isLatin1_aae02_6 : decode prog_17_method_154_code 6 = .ok (.aload_n 0, 1) := ge_aload_n_0 (by decide +kernel)
theorem d_J0_isLatin1_aae02_7 : decode prog_17_method_154_code 7 = .ok (.getfield 15, 3) := ge_getfield (by decide +kernel)
theorem d_J0_isLatin1_aae02_10 : decode prog_17_method_154_code 10 = .ok (.ifCond .ne 7, 3) := ge_ifCond_ne (by decide +kernel)
theorem d_J0_isLatin1_aae02_13 : decode prog_17_method_154_code 13 = .ok (.iconst 1, 1) := ge_iconst_1 (by decide +kernel)
theorem d_J0_isLatin1_aae02_14 : decode prog_17_method_154_code 14 = .ok (.goto 4, 3) := ge_goto (by decide +kernel)
theorem d_J0_isLatin1_aae02_17 : decode prog_17_method_154_code 17 = .ok (.iconst 0, 1) := ge_iconst_0 (by decide +kernel)
theorem d_J0_isLatin1_aae02_18 : decode prog_17_method_154_code 18 = .ok (.ireturn, 1) := ge_ireturn (by decide +kernel)
def f_J0_isLatin1_aae02 (a0 : UInt32) (μ : gm_M) : Option (Option Value × gm_M) := if (1 : Int32) = 0 then if (0 : Int32) = 0 ∨ (0 : Int32) = 1 then some (some (.int (0 : Int32)), μ) else none else if gm_isS a0 then if (0 : Int32) ≠ 0 then if (0 : Int32) = 0 ∨ (0 : Int32) = 1 then some (some (.int (0 : Int32)), μ) else none else if (1 : Int32) = 0 ∨ (1 : Int32) = 1 then some (some (.int (1 : Int32)), μ) else none else none
set_option maxHeartbeats 4000000 in
theorem c_J0_isLatin1_aae02 (a0 : UInt32) (μ : gm_M) : gm_Call ({ cls := "java/lang/String", name := "isLatin1", desc := "()Z" } : Jvm.MethodName) prog_17_method_154_code 1 (some .boolean) 0 0 0 [.float a0] μ (f_J0_isLatin1_aae02 a0 μ) := by
  refine gm_start PN_J0 (Nat.le_of_ble_eq_true rfl) (fun res μe => ?_)
  unfold f_J0_isLatin1_aae02
  show gm_A "java/lang/String" (gm_nm "isLatin1") _ _ _ _ _ _ _ _ _ 0 [(0, .float a0)] [] _ _
  refine gm_gsC gw_337 d_J0_isLatin1_aae02_0 ?_
  refine gm_if_eq (tgt := 17) d_J0_isLatin1_aae02_3 (by decide) (fun h3 => ?_) (fun h3 => ?_)
  ·
    refine gm_iconst (v := 0) d_J0_isLatin1_aae02_17 (by decide) ?_
    exact gm_zret rfl d_J0_isLatin1_aae02_18 (Nat.le_of_ble_eq_true rfl) (Nat.le_of_ble_eq_true rfl) (fun h => h)
  ·
    refine gm_aloadF d_J0_isLatin1_aae02_6 rfl 0 rfl ?_
    refine gm_getC gw_1338 d_J0_isLatin1_aae02_7 ?_
    refine gm_if_ne (tgt := 17) d_J0_isLatin1_aae02_10 (by decide) (fun h10 => ?_) (fun h10 => ?_)
    ·
      refine gm_iconst (v := 0) d_J0_isLatin1_aae02_17 (by decide) ?_
      exact gm_zret rfl d_J0_isLatin1_aae02_18 (Nat.le_of_ble_eq_true rfl) (Nat.le_of_ble_eq_true rfl) (fun h => h)
    ·
      refine gm_iconst (v := 1) d_J0_isLatin1_aae02_13 (by decide) ?_
      refine gm_goto (tgt := 18) d_J0_isLatin1_aae02_14 (by decide) ?_
      exact gm_zret rfl d_J0_isLatin1_aae02_18 (Nat.le_of_ble_eq_true rfl) (Nat.le_of_ble_eq_true rfl) (fun h => h)
theorem d_J3_checkIndex_8e157_0 : decode prog_21_method_11_code 0 = .ok (.iload_n 0, 1) := ge_iload_n_0 (by decide +kernel)
theorem d_J3_checkIndex_8e157_1 : decode prog_21_method_11_code 1 = .ok (.ifCond .lt 8, 3) := ge_ifCond_lt (by decide +kernel)
theorem d_J3_checkIndex_8e157_4 : decode prog_21_method_11_code 4 = .ok (.iload_n 0, 1) := ge_iload_n_0 (by decide +kernel)
theorem d_J3_checkIndex_8e157_5 : decode prog_21_method_11_code 5 = .ok (.iload_n 1, 1) := ge_iload_n_1 (by decide +kernel)
theorem d_J3_checkIndex_8e157_6 : decode prog_21_method_11_code 6 = .ok (.if_icmp .lt 10, 3) := ge_if_icmp_lt (by decide +kernel)
theorem d_J3_checkIndex_8e157_9 : decode prog_21_method_11_code 9 = .ok (.aload_n 2, 1) := ge_aload_n_2 (by decide +kernel)
theorem d_J3_checkIndex_8e157_10 : decode prog_21_method_11_code 10 = .ok (.iload_n 0, 1) := ge_iload_n_0 (by decide +kernel)
theorem d_J3_checkIndex_8e157_11 : decode prog_21_method_11_code 11 = .ok (.iload_n 1, 1) := ge_iload_n_1 (by decide +kernel)
theorem d_J3_checkIndex_8e157_16 : decode prog_21_method_11_code 16 = .ok (.iload_n 0, 1) := ge_iload_n_0 (by decide +kernel)
theorem d_J3_checkIndex_8e157_17 : decode prog_21_method_11_code 17 = .ok (.ireturn, 1) := ge_ireturn (by decide +kernel)
def f_J3_checkIndex_8e157 (a0 : Int32) (a1 : Int32) (a2 : UInt32) (μ : gm_M) : Option (Option Value × gm_M) := gm_j (fun (s1 : Unit) => none) (fun j2 => if a0 < 0 then j2 () else if a0 < a1 then some (some (.int a0), μ) else j2 ())
set_option maxHeartbeats 4000000 in
theorem c_J3_checkIndex_8e157 (a0 : Int32) (a1 : Int32) (a2 : UInt32) (μ : gm_M) : gm_Call ({ cls := "jdk/internal/util/Preconditions", name := "checkIndex", desc := "(IILjava/util/function/BiFunction;)I" } : Jvm.MethodName) prog_21_method_11_code 3 (some .int) 0 0 0 [.int a0, .int a1, .float a2] μ (f_J3_checkIndex_8e157 a0 a1 a2 μ) := by
  refine gm_start PN_J3 (Nat.le_of_ble_eq_true rfl) (fun res μe => ?_)
  unfold f_J3_checkIndex_8e157
  show gm_A "jdk/internal/util/Preconditions" (gm_nm "checkIndex") _ _ _ _ _ _ _ _ _ 0 [(0, .int a0), (1, .int a1), (2, .float a2)] [] _ _
  refine gm_iload_n d_J3_checkIndex_8e157_0 rfl 0 rfl ?_
  refine gm_join (S := Unit) (pj := 9) (kj := 0) (nj := 0) (fun s1 => μ) (fun s1 => [(0, .int a0), (1, .int a1), (2, .float a2)]) (fun s1 => []) (fun s1 => ?_) (fun j2 hj2 => ?_)
  ·
    refine gm_aloadF d_J3_checkIndex_8e157_9 rfl 2 rfl ?_
    refine gm_iload_n d_J3_checkIndex_8e157_10 rfl 0 rfl ?_
    refine gm_iload_n d_J3_checkIndex_8e157_11 rfl 1 rfl ?_
    exact gm_no
  ·
    refine gm_if_lt (tgt := 9) d_J3_checkIndex_8e157_1 (by decide) (fun h1 => ?_) (fun h1 => ?_)
    ·
      exact hj2 ()
    ·
      refine gm_iload_n d_J3_checkIndex_8e157_4 rfl 0 rfl ?_
      refine gm_iload_n d_J3_checkIndex_8e157_5 rfl 1 rfl ?_
      refine gm_icmp_lt (tgt := 16) d_J3_checkIndex_8e157_6 (by decide) (fun h6 => ?_) (fun h6 => ?_)
      ·
        refine gm_iload_n d_J3_checkIndex_8e157_16 rfl 0 rfl ?_
        exact gm_iret rfl d_J3_checkIndex_8e157_17 (Nat.le_of_ble_eq_true rfl) (Nat.le_of_ble_eq_true rfl) (fun h => h)
      ·
        exact hj2 ()
theorem d_J0_checkIndex_df160_0 : decode prog_17_method_155_code 0 = .ok (.iload_n 0, 1) := ge_iload_n_0 (by decide +kernel)
theorem d_J0_checkIndex_df160_1 : decode prog_17_method_155_code 1 = .ok (.iload_n 1, 1) := ge_iload_n_1 (by decide +kernel)
theorem d_J0_checkIndex_df160_2 : decode prog_17_method_155_code 2 = .ok (.getstatic 1053, 3) := ge_getstatic (by decide +kernel)
theorem d_J0_checkIndex_df160_5 : decode prog_17_method_155_code 5 = .ok (.invokestatic 1059, 3) := ge_invokestatic (by decide +kernel)
theorem d_J0_checkIndex_df160_8 : decode prog_17_method_155_code 8 = .ok (.pop, 1) := ge_pop (by decide +kernel)
theorem d_J0_checkIndex_df160_9 : decode prog_17_method_155_code 9 = .ok (.return_, 1) := ge_return_ (by decide +kernel)
def f_J0_checkIndex_df160 (a0 : Int32) (a1 : Int32) (μ : gm_M) : Option (Option Value × gm_M) := gm_bI (f_J3_checkIndex_8e157 a0 a1 (13 : UInt32) μ) (fun x2 m1 => some (none, m1))
set_option maxHeartbeats 4000000 in
theorem c_J0_checkIndex_df160 (a0 : Int32) (a1 : Int32) (μ : gm_M) : gm_Call ({ cls := "java/lang/String", name := "checkIndex", desc := "(II)V" } : Jvm.MethodName) prog_17_method_155_code 2 none 1 0 0 [.int a0, .int a1] μ (f_J0_checkIndex_df160 a0 a1 μ) := by
  refine gm_start PN_J0 (Nat.le_of_ble_eq_true rfl) (fun res μe => ?_)
  unfold f_J0_checkIndex_df160
  show gm_A "java/lang/String" (gm_nm "checkIndex") _ _ _ _ _ _ _ _ _ 0 [(0, .int a0), (1, .int a1)] [] _ _
  refine gm_iload_n d_J0_checkIndex_df160_0 rfl 0 rfl ?_
  refine gm_iload_n d_J0_checkIndex_df160_1 rfl 1 rfl ?_
  refine gm_gsF gw_353 d_J0_checkIndex_df160_2 ?_
  refine gm_callS [.int a0, .int a1, .float (13 : UInt32)] (c_J3_checkIndex_8e157 a0 a1 (13 : UInt32) μ) B_J3_checkIndex_8e157 gw_355 rfl rfl rfl d_J0_checkIndex_df160_5 (gm_kI (fun x2 m1 => ?_))
  refine gm_pop d_J0_checkIndex_df160_8 rfl ?_
  exact gm_vret rfl d_J0_checkIndex_df160_9 (Nat.le_of_ble_eq_true rfl) (Nat.le_of_ble_eq_true rfl) (fun h => h)
theorem d_J1_charAt_3b067_0 : decode prog_18_method_2_code 0 = .ok (.iload_n 1, 1) := ge_iload_n_1 (by decide +kernel)
theorem d_J1_charAt_3b067_1 : decode prog_18_method_2_code 1 = .ok (.aload_n 0, 1) := ge_aload_n_0 (by decide +kernel)
theorem d_J1_charAt_3b067_2 : decode prog_18_method_2_code 2 = .ok (.arraylength, 1) := ge_arraylength (by decide +kernel)
theorem d_J1_charAt_3b067_3 : decode prog_18_method_2_code 3 = .ok (.invokestatic 9, 3) := ge_invokestatic (by decide +kernel)
theorem d_J1_charAt_3b067_6 : decode prog_18_method_2_code 6 = .ok (.aload_n 0, 1) := ge_aload_n_0 (by decide +kernel)
theorem d_J1_charAt_3b067_7 : decode prog_18_method_2_code 7 = .ok (.iload_n 1, 1) := ge_iload_n_1 (by decide +kernel)
theorem d_J1_charAt_3b067_8 : decode prog_18_method_2_code 8 = .ok (.baload, 1) := ge_baload (by decide +kernel)
theorem d_J1_charAt_3b067_9 : decode prog_18_method_2_code 9 = .ok (.sipush 255, 3) := ge_sipush (by decide +kernel)
theorem d_J1_charAt_3b067_12 : decode prog_18_method_2_code 12 = .ok (.iand, 1) := ge_iand (by decide +kernel)
theorem d_J1_charAt_3b067_13 : decode prog_18_method_2_code 13 = .ok (.i2c, 1) := ge_i2c (by decide +kernel)
theorem d_J1_charAt_3b067_14 : decode prog_18_method_2_code 14 = .ok (.ireturn, 1) := ge_ireturn (by decide +kernel)
def f_J1_charAt_3b067 (a0 : UInt32) (a1 : Int32) (μ : gm_M) : Option (Option Value × gm_M) := if gm_isB a0 then gm_bV (f_J0_checkIndex_df160 a1 (Int32.ofNat (gm_bn a0)) μ) (fun m1 => gm_bl a0 a1 (fun v3 => if (UInt32.toInt32 (Int32.toUInt32 (UInt32.toInt32 (Int32.toUInt32 (v3 &&& (255 : Int32)) % 65536)) % 65536)) = (UInt32.toInt32 (Int32.toUInt32 (v3 &&& (255 : Int32)) % 65536)) then some (some (.int (UInt32.toInt32 (Int32.toUInt32 (v3 &&& (255 : Int32)) % 65536))), m1) else none)) else none
set_option maxHeartbeats 4000000 in
theorem c_J1_charAt_3b067 (a0 : UInt32) (a1 : Int32) (μ : gm_M) : gm_Call ({ cls := "java/lang/StringLatin1", name := "charAt", desc := "([BI)C" } : Jvm.MethodName) prog_18_method_2_code 2 (some .char) 2 0 0 [.float a0, .int a1] μ (f_J1_charAt_3b067 a0 a1 μ) := by
  refine gm_start PN_J1 (Nat.le_of_ble_eq_true rfl) (fun res μe => ?_)
  unfold f_J1_charAt_3b067
  show gm_A "java/lang/StringLatin1" (gm_nm "charAt") _ _ _ _ _ _ _ _ _ 0 [(0, .float a0), (1, .int a1)] [] _ _
  refine gm_iload_n d_J1_charAt_3b067_0 rfl 1 rfl ?_
  refine gm_aloadF d_J1_charAt_3b067_1 rfl 0 rfl ?_
  refine gm_alenB d_J1_charAt_3b067_2 ?_
  refine gm_callS [.int a1, .int (Int32.ofNat (gm_bn a0))] (c_J0_checkIndex_df160 a1 (Int32.ofNat (gm_bn a0)) μ) B_J0_checkIndex_df160 gw_350 rfl rfl rfl d_J1_charAt_3b067_3 (gm_kV (fun m1 => ?_))
  refine gm_aloadF d_J1_charAt_3b067_6 rfl 0 rfl ?_
  refine gm_iload_n d_J1_charAt_3b067_7 rfl 1 rfl ?_
  refine gm_baldB d_J1_charAt_3b067_8 (fun v3 _ => ?_)
  refine gm_sipush (v := 255) d_J1_charAt_3b067_9 (by decide) ?_
  refine gm_iand d_J1_charAt_3b067_12 ?_
  refine gm_i2c d_J1_charAt_3b067_13 ?_
  exact gm_cret rfl d_J1_charAt_3b067_14 (Nat.le_of_ble_eq_true rfl) (Nat.le_of_ble_eq_true rfl) (fun h => h)
theorem d_J0_charAt_5068e_0 : decode prog_17_method_56_code 0 = .ok (.aload_n 0, 1) := ge_aload_n_0 (by decide +kernel)
theorem d_J0_charAt_5068e_1 : decode prog_17_method_56_code 1 = .ok (.invokevirtual 492, 3) := ge_invokevirtual (by decide +kernel)
theorem d_J0_charAt_5068e_4 : decode prog_17_method_56_code 4 = .ok (.ifCond .eq 12, 3) := ge_ifCond_eq (by decide +kernel)
theorem d_J0_charAt_5068e_7 : decode prog_17_method_56_code 7 = .ok (.aload_n 0, 1) := ge_aload_n_0 (by decide +kernel)
theorem d_J0_charAt_5068e_8 : decode prog_17_method_56_code 8 = .ok (.getfield 9, 3) := ge_getfield (by decide +kernel)
theorem d_J0_charAt_5068e_11 : decode prog_17_method_56_code 11 = .ok (.iload_n 1, 1) := ge_iload_n_1 (by decide +kernel)
theorem d_J0_charAt_5068e_12 : decode prog_17_method_56_code 12 = .ok (.invokestatic 495, 3) := ge_invokestatic (by decide +kernel)
theorem d_J0_charAt_5068e_15 : decode prog_17_method_56_code 15 = .ok (.ireturn, 1) := ge_ireturn (by decide +kernel)
theorem d_J0_charAt_5068e_16 : decode prog_17_method_56_code 16 = .ok (.aload_n 0, 1) := ge_aload_n_0 (by decide +kernel)
theorem d_J0_charAt_5068e_17 : decode prog_17_method_56_code 17 = .ok (.getfield 9, 3) := ge_getfield (by decide +kernel)
theorem d_J0_charAt_5068e_20 : decode prog_17_method_56_code 20 = .ok (.iload_n 1, 1) := ge_iload_n_1 (by decide +kernel)
def f_J0_charAt_5068e (a0 : UInt32) (a1 : Int32) (μ : gm_M) : Option (Option Value × gm_M) := if gm_isS a0 then gm_bI (f_J0_isLatin1_aae02 a0 μ) (fun x2 m1 => if x2 = 0 then if gm_isS a0 then none else none else if gm_isS a0 then gm_bI (f_J1_charAt_3b067 (a0 + 6) a1 m1) (fun x5 m4 => if (UInt32.toInt32 (Int32.toUInt32 x5 % 65536)) = x5 then some (some (.int x5), m4) else none) else none) else none
set_option maxHeartbeats 4000000 in
theorem c_J0_charAt_5068e (a0 : UInt32) (a1 : Int32) (μ : gm_M) : gm_Call ({ cls := "java/lang/String", name := "charAt", desc := "(I)C" } : Jvm.MethodName) prog_17_method_56_code 2 (some .char) 3 0 0 [.float a0, .int a1] μ (f_J0_charAt_5068e a0 a1 μ) := by
  refine gm_start PN_J0 (Nat.le_of_ble_eq_true rfl) (fun res μe => ?_)
  unfold f_J0_charAt_5068e
  show gm_A "java/lang/String" (gm_nm "charAt") _ _ _ _ _ _ _ _ _ 0 [(0, .float a0), (1, .int a1)] [] _ _
  refine gm_aloadF d_J0_charAt_5068e_0 rfl 0 rfl ?_
  refine gm_grd (fun g1 => ?_)
  refine gm_callT [] (c_J0_isLatin1_aae02 a0 μ) g1 B_J0_isLatin1_aae02 gw_343 gw_345 rfl rfl rfl d_J0_charAt_5068e_1 (gm_kI (fun x2 m1 => ?_))
  refine gm_if_eq (tgt := 16) d_J0_charAt_5068e_4 (by decide) (fun h4 => ?_) (fun h4 => ?_)
  ·
    refine gm_aloadF d_J0_charAt_5068e_16 rfl 0 rfl ?_
    refine gm_getV gw_1337 d_J0_charAt_5068e_17 ?_
    refine gm_iload_n d_J0_charAt_5068e_20 rfl 1 rfl ?_
    exact gm_no
  ·
    refine gm_aloadF d_J0_charAt_5068e_7 rfl 0 rfl ?_
    refine gm_getV gw_1337 d_J0_charAt_5068e_8 ?_
    refine gm_iload_n d_J0_charAt_5068e_11 rfl 1 rfl ?_
    refine gm_callS [.float (a0 + 6), .int a1] (c_J1_charAt_3b067 (a0 + 6) a1 m1) B_J1_charAt_3b067 gw_347 rfl rfl rfl d_J0_charAt_5068e_12 (gm_kI (fun x5 m4 => ?_))
    exact gm_cret rfl d_J0_charAt_5068e_15 (Nat.le_of_ble_eq_true rfl) (Nat.le_of_ble_eq_true rfl) (fun h => h)
theorem d_J0_coder_7d493_0 : decode prog_17_method_152_code 0 = .ok (.getstatic 38, 3) := ge_getstatic (by decide +kernel)
theorem d_J0_coder_7d493_3 : decode prog_17_method_152_code 3 = .ok (.ifCond .eq 10, 3) := ge_ifCond_eq (by decide +kernel)
theorem d_J0_coder_7d493_6 : decode prog_17_method_152_code 6 = .ok (.aload_n 0, 1) := ge_aload_n_0 (by decide +kernel)
theorem d_J0_coder_7d493_7 : decode prog_17_method_152_code 7 = .ok (.getfield 15, 3) := ge_getfield (by decide +kernel)
theorem d_J0_coder_7d493_10 : decode prog_17_method_152_code 10 = .ok (.goto 4, 3) := ge_goto (by decide +kernel)
theorem d_J0_coder_7d493_13 : decode prog_17_method_152_code 13 = .ok (.iconst 1, 1) := ge_iconst_1 (by decide +kernel)
theorem d_J0_coder_7d493_14 : decode prog_17_method_152_code 14 = .ok (.ireturn, 1) := ge_ireturn (by decide +kernel)
def f_J0_coder_7d493 (a0 : UInt32) (μ : gm_M) : Option (Option Value × gm_M) := if (1 : Int32) = 0 then if (Int8.toInt32 (Int32.toInt8 (1 : Int32))) = (1 : Int32) then some (some (.int (1 : Int32)), μ) else none else if gm_isS a0 then if (Int8.toInt32 (Int32.toInt8 (0 : Int32))) = (0 : Int32) then some (some (.int (0 : Int32)), μ) else none else none
set_option maxHeartbeats 4000000 in
theorem c_J0_coder_7d493 (a0 : UInt32) (μ : gm_M) : gm_Call ({ cls := "java/lang/String", name := "coder", desc := "()B" } : Jvm.MethodName) prog_17_method_152_code 1 (some .byte) 0 0 0 [.float a0] μ (f_J0_coder_7d493 a0 μ) := by
  refine gm_start PN_J0 (Nat.le_of_ble_eq_true rfl) (fun res μe => ?_)
  unfold f_J0_coder_7d493
  show gm_A "java/lang/String" (gm_nm "coder") _ _ _ _ _ _ _ _ _ 0 [(0, .float a0)] [] _ _
  refine gm_gsC gw_337 d_J0_coder_7d493_0 ?_
  refine gm_if_eq (tgt := 13) d_J0_coder_7d493_3 (by decide) (fun h3 => ?_) (fun h3 => ?_)
  ·
    refine gm_iconst (v := 1) d_J0_coder_7d493_13 (by decide) ?_
    exact gm_bret rfl d_J0_coder_7d493_14 (Nat.le_of_ble_eq_true rfl) (Nat.le_of_ble_eq_true rfl) (fun h => h)
  ·
    refine gm_aloadF d_J0_coder_7d493_6 rfl 0 rfl ?_
    refine gm_getC gw_1338 d_J0_coder_7d493_7 ?_
    refine gm_goto (tgt := 14) d_J0_coder_7d493_10 (by decide) ?_
    exact gm_bret rfl d_J0_coder_7d493_14 (Nat.le_of_ble_eq_true rfl) (Nat.le_of_ble_eq_true rfl) (fun h => h)
theorem d_J0_length_8abf5_0 : decode prog_17_method_54_code 0 = .ok (.aload_n 0, 1) := ge_aload_n_0 (by decide +kernel)
theorem d_J0_length_8abf5_1 : decode prog_17_method_54_code 1 = .ok (.getfield 9, 3) := ge_getfield (by decide +kernel)
theorem d_J0_length_8abf5_4 : decode prog_17_method_54_code 4 = .ok (.arraylength, 1) := ge_arraylength (by decide +kernel)
theorem d_J0_length_8abf5_5 : decode prog_17_method_54_code 5 = .ok (.aload_n 0, 1) := ge_aload_n_0 (by decide +kernel)
theorem d_J0_length_8abf5_6 : decode prog_17_method_54_code 6 = .ok (.invokevirtual 335, 3) := ge_invokevirtual (by decide +kernel)
theorem d_J0_length_8abf5_9 : decode prog_17_method_54_code 9 = .ok (.ishr, 1) := ge_ishr (by decide +kernel)
theorem d_J0_length_8abf5_10 : decode prog_17_method_54_code 10 = .ok (.ireturn, 1) := ge_ireturn (by decide +kernel)
def f_J0_length_8abf5 (a0 : UInt32) (μ : gm_M) : Option (Option Value × gm_M) := if gm_isS a0 then if gm_isB (a0 + 6) then if gm_isS a0 then gm_bI (f_J0_coder_7d493 a0 μ) (fun x2 m1 => some (some (.int ((Int32.ofNat (gm_bn (a0 + 6))) >>> (x2 &&& 31))), m1)) else none else none else none
set_option maxHeartbeats 4000000 in
theorem c_J0_length_8abf5 (a0 : UInt32) (μ : gm_M) : gm_Call ({ cls := "java/lang/String", name := "length", desc := "()I" } : Jvm.MethodName) prog_17_method_54_code 1 (some .int) 1 0 0 [.float a0] μ (f_J0_length_8abf5 a0 μ) := by
  refine gm_start PN_J0 (Nat.le_of_ble_eq_true rfl) (fun res μe => ?_)
  unfold f_J0_length_8abf5
  show gm_A "java/lang/String" (gm_nm "length") _ _ _ _ _ _ _ _ _ 0 [(0, .float a0)] [] _ _
  refine gm_aloadF d_J0_length_8abf5_0 rfl 0 rfl ?_
  refine gm_getV gw_1337 d_J0_length_8abf5_1 ?_
  refine gm_alenB d_J0_length_8abf5_4 ?_
  refine gm_aloadF d_J0_length_8abf5_5 rfl 0 rfl ?_
  refine gm_grd (fun g6 => ?_)
  refine gm_callT [] (c_J0_coder_7d493 a0 μ) g6 B_J0_coder_7d493 gw_333 gw_335 rfl rfl rfl d_J0_length_8abf5_6 (gm_kI (fun x2 m1 => ?_))
  refine gm_ishr d_J0_length_8abf5_9 ?_
  exact gm_iret rfl d_J0_length_8abf5_10 (Nat.le_of_ble_eq_true rfl) (Nat.le_of_ble_eq_true rfl) (fun h => h)
theorem d_J1_canEncode_9a6ad_0 : decode prog_18_method_4_code 0 = .ok (.iload_n 0, 1) := ge_iload_n_0 (by decide +kernel)
theorem d_J1_canEncode_9a6ad_1 : decode prog_18_method_4_code 1 = .ok (.ifCond .lt 14, 3) := ge_ifCond_lt (by decide +kernel)
theorem d_J1_canEncode_9a6ad_4 : decode prog_18_method_4_code 4 = .ok (.iload_n 0, 1) := ge_iload_n_0 (by decide +kernel)
theorem d_J1_canEncode_9a6ad_5 : decode prog_18_method_4_code 5 = .ok (.sipush 255, 3) := ge_sipush (by decide +kernel)
theorem d_J1_canEncode_9a6ad_8 : decode prog_18_method_4_code 8 = .ok (.if_icmp .gt 7, 3) := ge_if_icmp_gt (by decide +kernel)
theorem d_J1_canEncode_9a6ad_11 : decode prog_18_method_4_code 11 = .ok (.iconst 1, 1) := ge_iconst_1 (by decide +kernel)
theorem d_J1_canEncode_9a6ad_12 : decode prog_18_method_4_code 12 = .ok (.goto 4, 3) := ge_goto (by decide +kernel)
theorem d_J1_canEncode_9a6ad_15 : decode prog_18_method_4_code 15 = .ok (.iconst 0, 1) := ge_iconst_0 (by decide +kernel)
theorem d_J1_canEncode_9a6ad_16 : decode prog_18_method_4_code 16 = .ok (.ireturn, 1) := ge_ireturn (by decide +kernel)
def f_J1_canEncode_9a6ad (a0 : Int32) (μ : gm_M) : Option (Option Value × gm_M) := if a0 < 0 then if (0 : Int32) = 0 ∨ (0 : Int32) = 1 then some (some (.int (0 : Int32)), μ) else none else if (255 : Int32) < a0 then if (0 : Int32) = 0 ∨ (0 : Int32) = 1 then some (some (.int (0 : Int32)), μ) else none else if (1 : Int32) = 0 ∨ (1 : Int32) = 1 then some (some (.int (1 : Int32)), μ) else none
set_option maxHeartbeats 4000000 in
theorem c_J1_canEncode_9a6ad (a0 : Int32) (μ : gm_M) : gm_Call ({ cls := "java/lang/StringLatin1", name := "canEncode", desc := "(I)Z" } : Jvm.MethodName) prog_18_method_4_code 1 (some .boolean) 0 0 0 [.int a0] μ (f_J1_canEncode_9a6ad a0 μ) := by
  refine gm_start PN_J1 (Nat.le_of_ble_eq_true rfl) (fun res μe => ?_)
  unfold f_J1_canEncode_9a6ad
  show gm_A "java/lang/StringLatin1" (gm_nm "canEncode") _ _ _ _ _ _ _ _ _ 0 [(0, .int a0)] [] _ _
  refine gm_iload_n d_J1_canEncode_9a6ad_0 rfl 0 rfl ?_
  refine gm_if_lt (tgt := 15) d_J1_canEncode_9a6ad_1 (by decide) (fun h1 => ?_) (fun h1 => ?_)
  ·
    refine gm_iconst (v := 0) d_J1_canEncode_9a6ad_15 (by decide) ?_
    exact gm_zret rfl d_J1_canEncode_9a6ad_16 (Nat.le_of_ble_eq_true rfl) (Nat.le_of_ble_eq_true rfl) (fun h => h)
  ·
    refine gm_iload_n d_J1_canEncode_9a6ad_4 rfl 0 rfl ?_
    refine gm_sipush (v := 255) d_J1_canEncode_9a6ad_5 (by decide) ?_
    refine gm_icmp_gt (tgt := 15) d_J1_canEncode_9a6ad_8 (by decide) (fun h8 => ?_) (fun h8 => ?_)
    ·
      refine gm_iconst (v := 0) d_J1_canEncode_9a6ad_15 (by decide) ?_
      exact gm_zret rfl d_J1_canEncode_9a6ad_16 (Nat.le_of_ble_eq_true rfl) (Nat.le_of_ble_eq_true rfl) (fun h => h)
    ·
      refine gm_iconst (v := 1) d_J1_canEncode_9a6ad_11 (by decide) ?_
      refine gm_goto (tgt := 16) d_J1_canEncode_9a6ad_12 (by decide) ?_
      exact gm_zret rfl d_J1_canEncode_9a6ad_16 (Nat.le_of_ble_eq_true rfl) (Nat.le_of_ble_eq_true rfl) (fun h => h)
theorem d_J1_indexOfChar_4cfef_0 : decode prog_18_method_23_code 0 = .ok (.iload_n 1, 1) := ge_iload_n_1 (by decide +kernel)
theorem d_J1_indexOfChar_4cfef_1 : decode prog_18_method_23_code 1 = .ok (.i2b, 1) := ge_i2b (by decide +kernel)
theorem d_J1_indexOfChar_4cfef_2 : decode prog_18_method_23_code 2 = .ok (.istore 4, 2) := ge_istore (by decide +kernel)
theorem d_J1_indexOfChar_4cfef_4 : decode prog_18_method_23_code 4 = .ok (.iload_n 2, 1) := ge_iload_n_2 (by decide +kernel)
theorem d_J1_indexOfChar_4cfef_5 : decode prog_18_method_23_code 5 = .ok (.istore 5, 2) := ge_istore (by decide +kernel)
theorem d_J1_indexOfChar_4cfef_7 : decode prog_18_method_23_code 7 = .ok (.iload 5, 2) := ge_iload (by decide +kernel)
theorem d_J1_indexOfChar_4cfef_9 : decode prog_18_method_23_code 9 = .ok (.iload_n 3, 1) := ge_iload_n_3 (by decide +kernel)
theorem d_J1_indexOfChar_4cfef_10 : decode prog_18_method_23_code 10 = .ok (.if_icmp .ge 21, 3) := ge_if_icmp_ge (by decide +kernel)
theorem d_J1_indexOfChar_4cfef_13 : decode prog_18_method_23_code 13 = .ok (.aload_n 0, 1) := ge_aload_n_0 (by decide +kernel)
theorem d_J1_indexOfChar_4cfef_14 : decode prog_18_method_23_code 14 = .ok (.iload 5, 2) := ge_iload (by decide +kernel)
theorem d_J1_indexOfChar_4cfef_16 : decode prog_18_method_23_code 16 = .ok (.baload, 1) := ge_baload (by decide +kernel)
theorem d_J1_indexOfChar_4cfef_17 : decode prog_18_method_23_code 17 = .ok (.iload 4, 2) := ge_iload (by decide +kernel)
theorem d_J1_indexOfChar_4cfef_19 : decode prog_18_method_23_code 19 = .ok (.if_icmp .ne 6, 3) := ge_if_icmp_ne (by decide +kernel)
theorem d_J1_indexOfChar_4cfef_22 : decode prog_18_method_23_code 22 = .ok (.iload 5, 2) := ge_iload (by decide +kernel)
theorem d_J1_indexOfChar_4cfef_24 : decode prog_18_method_23_code 24 = .ok (.ireturn, 1) := ge_ireturn (by decide +kernel)
theorem d_J1_indexOfChar_4cfef_25 : decode prog_18_method_23_code 25 = .ok (.iinc 5 1, 3) := ge_iinc (by decide +kernel)
theorem d_J1_indexOfChar_4cfef_28 : decode prog_18_method_23_code 28 = .ok (.goto (-21), 3) := ge_goto (by decide +kernel)
theorem d_J1_indexOfChar_4cfef_31 : decode prog_18_method_23_code 31 = .ok (.iconst (-1), 1) := ge_iconst_m1_ (by decide +kernel)
theorem d_J1_indexOfChar_4cfef_32 : decode prog_18_method_23_code 32 = .ok (.ireturn, 1) := ge_ireturn (by decide +kernel)
def f_J1_indexOfChar_4cfef (a0 : UInt32) (a1 : Int32) (a2 : Int32) (a3 : Int32) (μ : gm_M) : Option (Option Value × gm_M) := gm_loop (fun (s1 : Int32) => if a3 ≤ s1 then some (Sum.inr (some (.int (-1 : Int32)), μ)) else gm_bl a0 s1 (fun v2 => if v2 ≠ (Int8.toInt32 (Int32.toInt8 a1)) then some (Sum.inl (s1 + (1 : Int32))) else some (Sum.inr (some (.int s1), μ)))) 5000 a2
set_option maxHeartbeats 4000000 in
theorem c_J1_indexOfChar_4cfef (a0 : UInt32) (a1 : Int32) (a2 : Int32) (a3 : Int32) (μ : gm_M) : gm_Call ({ cls := "java/lang/StringLatin1", name := "indexOfChar", desc := "([BIII)I" } : Jvm.MethodName) prog_18_method_23_code 6 (some .int) 0 0 0 [.float a0, .int a1, .int a2, .int a3] μ (f_J1_indexOfChar_4cfef a0 a1 a2 a3 μ) := by
  refine gm_start PN_J1 (Nat.le_of_ble_eq_true rfl) (fun res μe => ?_)
  unfold f_J1_indexOfChar_4cfef
  show gm_A "java/lang/StringLatin1" (gm_nm "indexOfChar") _ _ _ _ _ _ _ _ _ 0 [(0, .float a0), (1, .int a1), (2, .int a2), (3, .int a3)] [] _ _
  refine gm_iload_n d_J1_indexOfChar_4cfef_0 rfl 1 rfl ?_
  refine gm_i2b d_J1_indexOfChar_4cfef_1 ?_
  refine gm_istore (L' := [(4, .int (Int8.toInt32 (Int32.toInt8 a1))), (0, .float a0), (1, .int a1), (2, .int a2), (3, .int a3)]) d_J1_indexOfChar_4cfef_2 (Nat.le_of_ble_eq_true rfl) rfl ?_
  refine gm_iload_n d_J1_indexOfChar_4cfef_4 rfl 3 rfl ?_
  refine gm_istore (L' := [(5, .int a2), (4, .int (Int8.toInt32 (Int32.toInt8 a1))), (0, .float a0), (1, .int a1), (2, .int a2), (3, .int a3)]) d_J1_indexOfChar_4cfef_5 (Nat.le_of_ble_eq_true rfl) rfl ?_
  refine gm_sub (L' := [(0, .float a0), (1, .int a1), (2, .int a2), (3, .int a3), (4, .int (Int8.toInt32 (Int32.toInt8 a1))), (5, .int a2)]) [2, 3, 4, 5, 1, 0] rfl ?_
  refine gm_lp (S := Int32) (fun _ => 0) (fun _ => 0) (fun s1 => μ) (fun s1 => [(0, .float a0), (1, .int a1), (2, .int a2), (3, .int a3), (4, .int (Int8.toInt32 (Int32.toInt8 a1))), (5, .int s1)]) (fun _ => []) (fun s1 => ?_) 5000 a2
  refine gm_iload d_J1_indexOfChar_4cfef_7 5 rfl ?_
  refine gm_iload_n d_J1_indexOfChar_4cfef_9 rfl 3 rfl ?_
  refine gm_icmp_ge (tgt := 31) d_J1_indexOfChar_4cfef_10 (by decide) (fun h10 => ?_) (fun h10 => ?_)
  ·
    refine gm_iconst (v := -1) d_J1_indexOfChar_4cfef_31 (by decide) ?_
    exact gm_iret rfl d_J1_indexOfChar_4cfef_32 (Nat.le_of_ble_eq_true rfl) (Nat.le_of_ble_eq_true rfl) (fun h => h)
  ·
    refine gm_aloadF d_J1_indexOfChar_4cfef_13 rfl 0 rfl ?_
    refine gm_iload d_J1_indexOfChar_4cfef_14 5 rfl ?_
    refine gm_baldB d_J1_indexOfChar_4cfef_16 (fun v2 _ => ?_)
    refine gm_iload d_J1_indexOfChar_4cfef_17 4 rfl ?_
    refine gm_icmp_ne (tgt := 25) d_J1_indexOfChar_4cfef_19 (by decide) (fun h19 => ?_) (fun h19 => ?_)
    ·
      refine gm_iinc (v := s1 + (1 : Int32)) (L' := [(5, .int (s1 + (1 : Int32))), (0, .float a0), (1, .int a1), (2, .int a2), (3, .int a3), (4, .int (Int8.toInt32 (Int32.toInt8 a1)))]) d_J1_indexOfChar_4cfef_25 5 rfl rfl (Nat.le_of_ble_eq_true rfl) rfl ?_
      refine gm_goto (tgt := 7) d_J1_indexOfChar_4cfef_28 (by decide) ?_
      refine gm_sub (L' := [(0, .float a0), (1, .int a1), (2, .int a2), (3, .int a3), (4, .int (Int8.toInt32 (Int32.toInt8 a1))), (5, .int (s1 + (1 : Int32)))]) [1, 2, 3, 4, 5, 0] rfl ?_
      exact gm_back (fun h => h)
    ·
      refine gm_iload d_J1_indexOfChar_4cfef_22 5 rfl ?_
      exact gm_iret rfl d_J1_indexOfChar_4cfef_24 (Nat.le_of_ble_eq_true rfl) (Nat.le_of_ble_eq_true rfl) (fun h => h)
theorem d_J1_indexOf_4cfef_0 : decode prog_18_method_22_code 0 = .ok (.iload_n 1, 1) := ge_iload_n_1 (by decide +kernel)
theorem d_J1_indexOf_4cfef_1 : decode prog_18_method_22_code 1 = .ok (.invokestatic 88, 3) := ge_invokestatic (by decide +kernel)
theorem d_J1_indexOf_4cfef_4 : decode prog_18_method_22_code 4 = .ok (.ifCond .ne 5, 3) := ge_ifCond_ne (by decide +kernel)
theorem d_J1_indexOf_4cfef_7 : decode prog_18_method_22_code 7 = .ok (.iconst (-1), 1) := ge_iconst_m1_ (by decide +kernel)
theorem d_J1_indexOf_4cfef_8 : decode prog_18_method_22_code 8 = .ok (.ireturn, 1) := ge_ireturn (by decide +kernel)
theorem d_J1_indexOf_4cfef_9 : decode prog_18_method_22_code 9 = .ok (.iload_n 2, 1) := ge_iload_n_2 (by decide +kernel)
theorem d_J1_indexOf_4cfef_10 : decode prog_18_method_22_code 10 = .ok (.iconst 0, 1) := ge_iconst_0 (by decide +kernel)
theorem d_J1_indexOf_4cfef_11 : decode prog_18_method_22_code 11 = .ok (.invokestatic 92, 3) := ge_invokestatic (by decide +kernel)
theorem d_J1_indexOf_4cfef_14 : decode prog_18_method_22_code 14 = .ok (.istore_n 2, 1) := ge_istore_n_2 (by decide +kernel)
theorem d_J1_indexOf_4cfef_15 : decode prog_18_method_22_code 15 = .ok (.iload_n 3, 1) := ge_iload_n_3 (by decide +kernel)
theorem d_J1_indexOf_4cfef_16 : decode prog_18_method_22_code 16 = .ok (.aload_n 0, 1) := ge_aload_n_0 (by decide +kernel)
theorem d_J1_indexOf_4cfef_17 : decode prog_18_method_22_code 17 = .ok (.arraylength, 1) := ge_arraylength (by decide +kernel)
theorem d_J1_indexOf_4cfef_18 : decode prog_18_method_22_code 18 = .ok (.invokestatic 38, 3) := ge_invokestatic (by decide +kernel)
theorem d_J1_indexOf_4cfef_21 : decode prog_18_method_22_code 21 = .ok (.istore_n 3, 1) := ge_istore_n_3 (by decide +kernel)
theorem d_J1_indexOf_4cfef_22 : decode prog_18_method_22_code 22 = .ok (.iload_n 2, 1) := ge_iload_n_2 (by decide +kernel)
theorem d_J1_indexOf_4cfef_23 : decode prog_18_method_22_code 23 = .ok (.iload_n 3, 1) := ge_iload_n_3 (by decide +kernel)
theorem d_J1_indexOf_4cfef_24 : decode prog_18_method_22_code 24 = .ok (.if_icmp .lt 5, 3) := ge_if_icmp_lt (by decide +kernel)
theorem d_J1_indexOf_4cfef_27 : decode prog_18_method_22_code 27 = .ok (.iconst (-1), 1) := ge_iconst_m1_ (by decide +kernel)
theorem d_J1_indexOf_4cfef_28 : decode prog_18_method_22_code 28 = .ok (.ireturn, 1) := ge_ireturn (by decide +kernel)
theorem d_J1_indexOf_4cfef_29 : decode prog_18_method_22_code 29 = .ok (.aload_n 0, 1) := ge_aload_n_0 (by decide +kernel)
theorem d_J1_indexOf_4cfef_30 : decode prog_18_method_22_code 30 = .ok (.iload_n 1, 1) := ge_iload_n_1 (by decide +kernel)
theorem d_J1_indexOf_4cfef_31 : decode prog_18_method_22_code 31 = .ok (.iload_n 2, 1) := ge_iload_n_2 (by decide +kernel)
theorem d_J1_indexOf_4cfef_32 : decode prog_18_method_22_code 32 = .ok (.iload_n 3, 1) := ge_iload_n_3 (by decide +kernel)
theorem d_J1_indexOf_4cfef_33 : decode prog_18_method_22_code 33 = .ok (.invokestatic 95, 3) := ge_invokestatic (by decide +kernel)
theorem d_J1_indexOf_4cfef_36 : decode prog_18_method_22_code 36 = .ok (.ireturn, 1) := ge_ireturn (by decide +kernel)
def f_J1_indexOf_4cfef (a0 : UInt32) (a1 : Int32) (a2 : Int32) (a3 : Int32) (μ : gm_M) : Option (Option Value × gm_M) := gm_bI (f_J1_canEncode_9a6ad a1 μ) (fun x2 m1 => if x2 ≠ 0 then if gm_isB a0 then if (if a2 < (0 : Int32) then (0 : Int32) else a2) < (if (Int32.ofNat (gm_bn a0)) < a3 then (Int32.ofNat (gm_bn a0)) else a3) then gm_bI (f_J1_indexOfChar_4cfef a0 a1 (if a2 < (0 : Int32) then (0 : Int32) else a2) (if (Int32.ofNat (gm_bn a0)) < a3 then (Int32.ofNat (gm_bn a0)) else a3) m1) (fun x6 m5 => some (some (.int x6), m5)) else some (some (.int (-1 : Int32)), m1) else none else some (some (.int (-1 : Int32)), m1))
set_option maxHeartbeats 4000000 in
theorem c_J1_indexOf_4cfef (a0 : UInt32) (a1 : Int32) (a2 : Int32) (a3 : Int32) (μ : gm_M) : gm_Call ({ cls := "java/lang/StringLatin1", name := "indexOf", desc := "([BIII)I" } : Jvm.MethodName) prog_18_method_22_code 4 (some .int) 1 0 0 [.float a0, .int a1, .int a2, .int a3] μ (f_J1_indexOf_4cfef a0 a1 a2 a3 μ) := by
  refine gm_start PN_J1 (Nat.le_of_ble_eq_true rfl) (fun res μe => ?_)
  unfold f_J1_indexOf_4cfef
  show gm_A "java/lang/StringLatin1" (gm_nm "indexOf") _ _ _ _ _ _ _ _ _ 0 [(0, .float a0), (1, .int a1), (2, .int a2), (3, .int a3)] [] _ _
  refine gm_iload_n d_J1_indexOf_4cfef_0 rfl 1 rfl ?_
  refine gm_callS [.int a1] (c_J1_canEncode_9a6ad a1 μ) B_J1_canEncode_9a6ad gw_413 rfl rfl rfl d_J1_indexOf_4cfef_1 (gm_kI (fun x2 m1 => ?_))
  refine gm_if_ne (tgt := 9) d_J1_indexOf_4cfef_4 (by decide) (fun h4 => ?_) (fun h4 => ?_)
  ·
    refine gm_iload_n d_J1_indexOf_4cfef_9 rfl 2 rfl ?_
    refine gm_iconst (v := 0) d_J1_indexOf_4cfef_10 (by decide) ?_
    refine gm_max gw_416 gw_38 gw_3 (show _ from gw_39) (Nat.le_of_ble_eq_true rfl) (Nat.le_of_ble_eq_true rfl) (Nat.le_of_ble_eq_true rfl) (Nat.le_of_ble_eq_true rfl) rfl d_J1_indexOf_4cfef_11 ?_
    refine gm_istore_n (L' := [(2, .int (if a2 < (0 : Int32) then (0 : Int32) else a2)), (0, .float a0), (1, .int a1), (3, .int a3)]) d_J1_indexOf_4cfef_14 rfl (Nat.le_of_ble_eq_true rfl) rfl ?_
    refine gm_iload_n d_J1_indexOf_4cfef_15 rfl 3 rfl ?_
    refine gm_aloadF d_J1_indexOf_4cfef_16 rfl 1 rfl ?_
    refine gm_alenB d_J1_indexOf_4cfef_17 ?_
    refine gm_min gw_417 gw_310 gw_3 (show _ from gw_311) (Nat.le_of_ble_eq_true rfl) (Nat.le_of_ble_eq_true rfl) (Nat.le_of_ble_eq_true rfl) (Nat.le_of_ble_eq_true rfl) rfl d_J1_indexOf_4cfef_18 ?_
    refine gm_istore_n (L' := [(3, .int (if (Int32.ofNat (gm_bn a0)) < a3 then (Int32.ofNat (gm_bn a0)) else a3)), (2, .int (if a2 < (0 : Int32) then (0 : Int32) else a2)), (0, .float a0), (1, .int a1)]) d_J1_indexOf_4cfef_21 rfl (Nat.le_of_ble_eq_true rfl) rfl ?_
    refine gm_iload_n d_J1_indexOf_4cfef_22 rfl 1 rfl ?_
    refine gm_iload_n d_J1_indexOf_4cfef_23 rfl 0 rfl ?_
    refine gm_icmp_lt (tgt := 29) d_J1_indexOf_4cfef_24 (by decide) (fun h24 => ?_) (fun h24 => ?_)
    ·
      refine gm_aloadF d_J1_indexOf_4cfef_29 rfl 2 rfl ?_
      refine gm_iload_n d_J1_indexOf_4cfef_30 rfl 3 rfl ?_
      refine gm_iload_n d_J1_indexOf_4cfef_31 rfl 1 rfl ?_
      refine gm_iload_n d_J1_indexOf_4cfef_32 rfl 0 rfl ?_
      refine gm_callS [.float a0, .int a1, .int (if a2 < (0 : Int32) then (0 : Int32) else a2), .int (if (Int32.ofNat (gm_bn a0)) < a3 then (Int32.ofNat (gm_bn a0)) else a3)] (c_J1_indexOfChar_4cfef a0 a1 (if a2 < (0 : Int32) then (0 : Int32) else a2) (if (Int32.ofNat (gm_bn a0)) < a3 then (Int32.ofNat (gm_bn a0)) else a3) m1) B_J1_indexOfChar_4cfef gw_418 rfl rfl rfl d_J1_indexOf_4cfef_33 (gm_kI (fun x6 m5 => ?_))
      exact gm_iret rfl d_J1_indexOf_4cfef_36 (Nat.le_of_ble_eq_true rfl) (Nat.le_of_ble_eq_true rfl) (fun h => h)
    ·
      refine gm_iconst (v := -1) d_J1_indexOf_4cfef_27 (by decide) ?_
      exact gm_iret rfl d_J1_indexOf_4cfef_28 (Nat.le_of_ble_eq_true rfl) (Nat.le_of_ble_eq_true rfl) (fun h => h)
  ·
    refine gm_iconst (v := -1) d_J1_indexOf_4cfef_7 (by decide) ?_
    exact gm_iret rfl d_J1_indexOf_4cfef_8 (Nat.le_of_ble_eq_true rfl) (Nat.le_of_ble_eq_true rfl) (fun h => h)
theorem d_J0_indexOf_7cf53_0 : decode prog_17_method_80_code 0 = .ok (.aload_n 0, 1) := ge_aload_n_0 (by decide +kernel)
theorem d_J0_indexOf_7cf53_1 : decode prog_17_method_80_code 1 = .ok (.invokevirtual 492, 3) := ge_invokevirtual (by decide +kernel)
theorem d_J0_indexOf_7cf53_4 : decode prog_17_method_80_code 4 = .ok (.ifCond .eq 19, 3) := ge_ifCond_eq (by decide +kernel)
theorem d_J0_indexOf_7cf53_7 : decode prog_17_method_80_code 7 = .ok (.aload_n 0, 1) := ge_aload_n_0 (by decide +kernel)
theorem d_J0_indexOf_7cf53_8 : decode prog_17_method_80_code 8 = .ok (.getfield 9, 3) := ge_getfield (by decide +kernel)
theorem d_J0_indexOf_7cf53_11 : decode prog_17_method_80_code 11 = .ok (.iload_n 1, 1) := ge_iload_n_1 (by decide +kernel)
theorem d_J0_indexOf_7cf53_12 : decode prog_17_method_80_code 12 = .ok (.iload_n 2, 1) := ge_iload_n_2 (by decide +kernel)
theorem d_J0_indexOf_7cf53_13 : decode prog_17_method_80_code 13 = .ok (.aload_n 0, 1) := ge_aload_n_0 (by decide +kernel)
theorem d_J0_indexOf_7cf53_14 : decode prog_17_method_80_code 14 = .ok (.invokevirtual 505, 3) := ge_invokevirtual (by decide +kernel)
theorem d_J0_indexOf_7cf53_17 : decode prog_17_method_80_code 17 = .ok (.invokestatic 637, 3) := ge_invokestatic (by decide +kernel)
theorem d_J0_indexOf_7cf53_20 : decode prog_17_method_80_code 20 = .ok (.goto 16, 3) := ge_goto (by decide +kernel)
theorem d_J0_indexOf_7cf53_23 : decode prog_17_method_80_code 23 = .ok (.aload_n 0, 1) := ge_aload_n_0 (by decide +kernel)
theorem d_J0_indexOf_7cf53_24 : decode prog_17_method_80_code 24 = .ok (.getfield 9, 3) := ge_getfield (by decide +kernel)
theorem d_J0_indexOf_7cf53_27 : decode prog_17_method_80_code 27 = .ok (.iload_n 1, 1) := ge_iload_n_1 (by decide +kernel)
theorem d_J0_indexOf_7cf53_28 : decode prog_17_method_80_code 28 = .ok (.iload_n 2, 1) := ge_iload_n_2 (by decide +kernel)
theorem d_J0_indexOf_7cf53_29 : decode prog_17_method_80_code 29 = .ok (.aload_n 0, 1) := ge_aload_n_0 (by decide +kernel)
theorem d_J0_indexOf_7cf53_30 : decode prog_17_method_80_code 30 = .ok (.invokevirtual 505, 3) := ge_invokevirtual (by decide +kernel)
theorem d_J0_indexOf_7cf53_36 : decode prog_17_method_80_code 36 = .ok (.ireturn, 1) := ge_ireturn (by decide +kernel)
def f_J0_indexOf_7cf53 (a0 : UInt32) (a1 : Int32) (a2 : Int32) (μ : gm_M) : Option (Option Value × gm_M) := if gm_isS a0 then gm_bI (f_J0_isLatin1_aae02 a0 μ) (fun x2 m1 => if x2 = 0 then if gm_isS a0 then if gm_isS a0 then gm_bI (f_J0_length_8abf5 a0 m1) (fun x4 m3 => none) else none else none else if gm_isS a0 then if gm_isS a0 then gm_bI (f_J0_length_8abf5 a0 m1) (fun x7 m6 => gm_bI (f_J1_indexOf_4cfef (a0 + 6) a1 a2 x7 m6) (fun x9 m8 => some (some (.int x9), m8))) else none else none) else none
set_option maxHeartbeats 4000000 in
theorem c_J0_indexOf_7cf53 (a0 : UInt32) (a1 : Int32) (a2 : Int32) (μ : gm_M) : gm_Call ({ cls := "java/lang/String", name := "indexOf", desc := "(II)I" } : Jvm.MethodName) prog_17_method_80_code 3 (some .int) 2 0 0 [.float a0, .int a1, .int a2] μ (f_J0_indexOf_7cf53 a0 a1 a2 μ) := by
  refine gm_start PN_J0 (Nat.le_of_ble_eq_true rfl) (fun res μe => ?_)
  unfold f_J0_indexOf_7cf53
  show gm_A "java/lang/String" (gm_nm "indexOf") _ _ _ _ _ _ _ _ _ 0 [(0, .float a0), (1, .int a1), (2, .int a2)] [] _ _
  refine gm_aloadF d_J0_indexOf_7cf53_0 rfl 0 rfl ?_
  refine gm_grd (fun g1 => ?_)
  refine gm_callT [] (c_J0_isLatin1_aae02 a0 μ) g1 B_J0_isLatin1_aae02 gw_343 gw_345 rfl rfl rfl d_J0_indexOf_7cf53_1 (gm_kI (fun x2 m1 => ?_))
  refine gm_if_eq (tgt := 23) d_J0_indexOf_7cf53_4 (by decide) (fun h4 => ?_) (fun h4 => ?_)
  ·
    refine gm_aloadF d_J0_indexOf_7cf53_23 rfl 0 rfl ?_
    refine gm_getV gw_1337 d_J0_indexOf_7cf53_24 ?_
    refine gm_iload_n d_J0_indexOf_7cf53_27 rfl 1 rfl ?_
    refine gm_iload_n d_J0_indexOf_7cf53_28 rfl 2 rfl ?_
    refine gm_aloadF d_J0_indexOf_7cf53_29 rfl 0 rfl ?_
    refine gm_grd (fun g30 => ?_)
    refine gm_callT [] (c_J0_length_8abf5 a0 m1) g30 B_J0_length_8abf5 gw_409 gw_331 rfl rfl rfl d_J0_indexOf_7cf53_30 (gm_kI (fun x4 m3 => ?_))
    exact gm_no
  ·
    refine gm_aloadF d_J0_indexOf_7cf53_7 rfl 0 rfl ?_
    refine gm_getV gw_1337 d_J0_indexOf_7cf53_8 ?_
    refine gm_iload_n d_J0_indexOf_7cf53_11 rfl 1 rfl ?_
    refine gm_iload_n d_J0_indexOf_7cf53_12 rfl 2 rfl ?_
    refine gm_aloadF d_J0_indexOf_7cf53_13 rfl 0 rfl ?_
    refine gm_grd (fun g14 => ?_)
    refine gm_callT [] (c_J0_length_8abf5 a0 m1) g14 B_J0_length_8abf5 gw_409 gw_331 rfl rfl rfl d_J0_indexOf_7cf53_14 (gm_kI (fun x7 m6 => ?_))
    refine gm_callS [.float (a0 + 6), .int a1, .int a2, .int x7] (c_J1_indexOf_4cfef (a0 + 6) a1 a2 x7 m6) B_J1_indexOf_4cfef gw_410 rfl rfl rfl d_J0_indexOf_7cf53_17 (gm_kI (fun x9 m8 => ?_))
    refine gm_goto (tgt := 36) d_J0_indexOf_7cf53_20 (by decide) ?_
    exact gm_iret rfl d_J0_indexOf_7cf53_36 (Nat.le_of_ble_eq_true rfl) (Nat.le_of_ble_eq_true rfl) (fun h => h)
theorem d_J0_indexOf_0f7a4_0 : decode prog_17_method_79_code 0 = .ok (.aload_n 0, 1) := ge_aload_n_0 (by decide +kernel)
theorem d_J0_indexOf_0f7a4_1 : decode prog_17_method_79_code 1 = .ok (.iload_n 1, 1) := ge_iload_n_1 (by decide +kernel)
theorem d_J0_indexOf_0f7a4_2 : decode prog_17_method_79_code 2 = .ok (.iconst 0, 1) := ge_iconst_0 (by decide +kernel)
theorem d_J0_indexOf_0f7a4_3 : decode prog_17_method_79_code 3 = .ok (.invokevirtual 633, 3) := ge_invokevirtual (by decide +kernel)
theorem d_J0_indexOf_0f7a4_6 : decode prog_17_method_79_code 6 = .ok (.ireturn, 1) := ge_ireturn (by decide +kernel)
def f_J0_indexOf_0f7a4 (a0 : UInt32) (a1 : Int32) (μ : gm_M) : Option (Option Value × gm_M) := if gm_isS a0 then gm_bI (f_J0_indexOf_7cf53 a0 a1 (0 : Int32) μ) (fun x2 m1 => some (some (.int x2), m1)) else none
set_option maxHeartbeats 4000000 in
theorem c_J0_indexOf_0f7a4 (a0 : UInt32) (a1 : Int32) (μ : gm_M) : gm_Call ({ cls := "java/lang/String", name := "indexOf", desc := "(I)I" } : Jvm.MethodName) prog_17_method_79_code 2 (some .int) 3 0 0 [.float a0, .int a1] μ (f_J0_indexOf_0f7a4 a0 a1 μ) := by
  refine gm_start PN_J0 (Nat.le_of_ble_eq_true rfl) (fun res μe => ?_)
  unfold f_J0_indexOf_0f7a4
  show gm_A "java/lang/String" (gm_nm "indexOf") _ _ _ _ _ _ _ _ _ 0 [(0, .float a0), (1, .int a1)] [] _ _
  refine gm_aloadF d_J0_indexOf_0f7a4_0 rfl 0 rfl ?_
  refine gm_iload_n d_J0_indexOf_0f7a4_1 rfl 1 rfl ?_
  refine gm_iconst (v := 0) d_J0_indexOf_0f7a4_2 (by decide) ?_
  refine gm_grd (fun g3 => ?_)
  refine gm_callT [.int a1, .int (0 : Int32)] (c_J0_indexOf_7cf53 a0 a1 (0 : Int32) μ) g3 B_J0_indexOf_7cf53 gw_405 gw_407 rfl rfl rfl d_J0_indexOf_0f7a4_3 (gm_kI (fun x2 m1 => ?_))
  exact gm_iret rfl d_J0_indexOf_0f7a4_6 (Nat.le_of_ble_eq_true rfl) (Nat.le_of_ble_eq_true rfl) (fun h => h)
theorem d_X0_addChange_0 : decode prog_2_method_14_code 0 = .ok (.aload_n 0, 1) := ge_aload_n_0 (by decide +kernel)
theorem d_X0_addChange_1 : decode prog_2_method_14_code 1 = .ok (.getfield 49, 3) := ge_getfield (by decide +kernel)
theorem d_X0_addChange_4 : decode prog_2_method_14_code 4 = .ok (.bipush 10, 2) := ge_bipush (by decide +kernel)
theorem d_X0_addChange_6 : decode prog_2_method_14_code 6 = .ok (.if_icmp .lt 4, 3) := ge_if_icmp_lt (by decide +kernel)
theorem d_X0_addChange_9 : decode prog_2_method_14_code 9 = .ok (.return_, 1) := ge_return_ (by decide +kernel)
theorem d_X0_addChange_10 : decode prog_2_method_14_code 10 = .ok (.aload_n 0, 1) := ge_aload_n_0 (by decide +kernel)
theorem d_X0_addChange_11 : decode prog_2_method_14_code 11 = .ok (.getfield 16, 3) := ge_getfield (by decide +kernel)
theorem d_X0_addChange_14 : decode prog_2_method_14_code 14 = .ok (.aload_n 0, 1) := ge_aload_n_0 (by decide +kernel)
theorem d_X0_addChange_15 : decode prog_2_method_14_code 15 = .ok (.getfield 49, 3) := ge_getfield (by decide +kernel)
theorem d_X0_addChange_18 : decode prog_2_method_14_code 18 = .ok (.iload_n 1, 1) := ge_iload_n_1 (by decide +kernel)
theorem d_X0_addChange_19 : decode prog_2_method_14_code 19 = .ok (.iastore, 1) := ge_iastore (by decide +kernel)
theorem d_X0_addChange_20 : decode prog_2_method_14_code 20 = .ok (.aload_n 0, 1) := ge_aload_n_0 (by decide +kernel)
theorem d_X0_addChange_21 : decode prog_2_method_14_code 21 = .ok (.getfield 20, 3) := ge_getfield (by decide +kernel)
theorem d_X0_addChange_24 : decode prog_2_method_14_code 24 = .ok (.aload_n 0, 1) := ge_aload_n_0 (by decide +kernel)
theorem d_X0_addChange_25 : decode prog_2_method_14_code 25 = .ok (.getfield 49, 3) := ge_getfield (by decide +kernel)
theorem d_X0_addChange_28 : decode prog_2_method_14_code 28 = .ok (.aload_n 0, 1) := ge_aload_n_0 (by decide +kernel)
theorem d_X0_addChange_29 : decode prog_2_method_14_code 29 = .ok (.getfield 115, 3) := ge_getfield (by decide +kernel)
theorem d_X0_addChange_32 : decode prog_2_method_14_code 32 = .ok (.iastore, 1) := ge_iastore (by decide +kernel)
theorem d_X0_addChange_33 : decode prog_2_method_14_code 33 = .ok (.aload_n 0, 1) := ge_aload_n_0 (by decide +kernel)
theorem d_X0_addChange_34 : decode prog_2_method_14_code 34 = .ok (.dup, 1) := ge_dup (by decide +kernel)
theorem d_X0_addChange_35 : decode prog_2_method_14_code 35 = .ok (.getfield 49, 3) := ge_getfield (by decide +kernel)
theorem d_X0_addChange_38 : decode prog_2_method_14_code 38 = .ok (.iconst 1, 1) := ge_iconst_1 (by decide +kernel)
theorem d_X0_addChange_39 : decode prog_2_method_14_code 39 = .ok (.iadd, 1) := ge_iadd (by decide +kernel)
theorem d_X0_addChange_40 : decode prog_2_method_14_code 40 = .ok (.putfield 49, 3) := ge_putfield (by decide +kernel)
theorem d_X0_addChange_43 : decode prog_2_method_14_code 43 = .ok (.return_, 1) := ge_return_ (by decide +kernel)
def f_X0_addChange (a0 : Nat) (a1 : Int32) (μ : gm_M) : Option (Option Value × gm_M) := gm_gI μ [5] a0 2 (fun v1 => if v1 < (10 : Int32) then gm_gR μ [5] a0 3 (fun v2 => gm_gI μ [5] a0 2 (fun v3 => gm_sI μ v2 v3 a1 (fun m4 => gm_gR m4 [5] a0 4 (fun v5 => gm_gI m4 [5] a0 2 (fun v6 => gm_gI m4 [5] a0 6 (fun v7 => gm_sI m4 v5 v6 v7 (fun m8 => gm_gI m8 [5] a0 2 (fun v9 => gm_pI m8 [5] a0 2 (v9 + (1 : Int32)) (fun m10 => some (none, m10)))))))))) else some (none, μ))
set_option maxHeartbeats 4000000 in
theorem c_X0_addChange (a0 : Nat) (a1 : Int32) (μ : gm_M) : gm_Call ({ cls := "GumBubble$Afternoon", name := "addChange", desc := "(I)V" } : Jvm.MethodName) prog_2_method_14_code 2 none 0 0 0 [.ref a0, .int a1] μ (f_X0_addChange a0 a1 μ) := by
  refine gm_start PN_0 (Nat.le_of_ble_eq_true rfl) (fun res μe => ?_)
  unfold f_X0_addChange
  show gm_A "GumBubble$Afternoon" (gm_nm "addChange") _ _ _ _ _ _ _ _ _ 0 [(0, .ref a0), (1, .int a1)] [] _ _
  refine gm_aload_n d_X0_addChange_0 rfl 0 rfl ?_
  refine gm_getI F_0_changes gw_130 d_X0_addChange_1 (fun v1 _ => ?_)
  refine gm_bipush (v := 10) d_X0_addChange_4 (by decide) ?_
  refine gm_icmp_lt (tgt := 10) d_X0_addChange_6 (by decide) (fun h6 => ?_) (fun h6 => ?_)
  ·
    refine gm_aload_n d_X0_addChange_10 rfl 0 rfl ?_
    refine gm_getR F_0_amounts gw_131 d_X0_addChange_11 (fun v2 _ => ?_)
    refine gm_aload_n d_X0_addChange_14 rfl 0 rfl ?_
    refine gm_getI F_0_changes gw_130 d_X0_addChange_15 (fun v3 _ => ?_)
    refine gm_iload_n d_X0_addChange_18 rfl 1 rfl ?_
    refine gm_iast d_X0_addChange_19 (fun m4 _ => ?_)
    refine gm_aload_n d_X0_addChange_20 rfl 0 rfl ?_
    refine gm_getR F_0_ends gw_132 d_X0_addChange_21 (fun v5 _ => ?_)
    refine gm_aload_n d_X0_addChange_24 rfl 0 rfl ?_
    refine gm_getI F_0_changes gw_130 d_X0_addChange_25 (fun v6 _ => ?_)
    refine gm_aload_n d_X0_addChange_28 rfl 0 rfl ?_
    refine gm_getI F_0_codeSize gw_134 d_X0_addChange_29 (fun v7 _ => ?_)
    refine gm_iast d_X0_addChange_32 (fun m8 _ => ?_)
    refine gm_aload_n d_X0_addChange_33 rfl 0 rfl ?_
    refine gm_dup d_X0_addChange_34 rfl ?_
    refine gm_getI F_0_changes gw_130 d_X0_addChange_35 (fun v9 _ => ?_)
    refine gm_iconst (v := 1) d_X0_addChange_38 (by decide) ?_
    refine gm_iadd d_X0_addChange_39 ?_
    refine gm_putI F_0_changes (Or.inl rfl) gw_130 d_X0_addChange_40 (fun m10 _ => ?_)
    exact gm_vret rfl d_X0_addChange_43 (Nat.le_of_ble_eq_true rfl) (Nat.le_of_ble_eq_true rfl) (fun h => h)
  ·
    exact gm_vret rfl d_X0_addChange_9 (Nat.le_of_ble_eq_true rfl) (Nat.le_of_ble_eq_true rfl) (fun h => h)
theorem d_X0_init_0 : decode prog_2_method_1_code 0 = .ok (.aload_n 0, 1) := ge_aload_n_0 (by decide +kernel)
theorem d_X0_init_1 : decode prog_2_method_1_code 1 = .ok (.invokespecial 1, 3) := ge_invokespecial (by decide +kernel)
theorem d_X0_init_4 : decode prog_2_method_1_code 4 = .ok (.aload_n 0, 1) := ge_aload_n_0 (by decide +kernel)
theorem d_X0_init_5 : decode prog_2_method_1_code 5 = .ok (.iconst 0, 1) := ge_iconst_0 (by decide +kernel)
theorem d_X0_init_6 : decode prog_2_method_1_code 6 = .ok (.putfield 7, 3) := ge_putfield (by decide +kernel)
theorem d_X0_init_9 : decode prog_2_method_1_code 9 = .ok (.aload_n 0, 1) := ge_aload_n_0 (by decide +kernel)
theorem d_X0_init_10 : decode prog_2_method_1_code 10 = .ok (.bipush 20, 2) := ge_bipush (by decide +kernel)
theorem d_X0_init_12 : decode prog_2_method_1_code 12 = .ok (.putfield 13, 3) := ge_putfield (by decide +kernel)
theorem d_X0_init_15 : decode prog_2_method_1_code 15 = .ok (.aload_n 0, 1) := ge_aload_n_0 (by decide +kernel)
theorem d_X0_init_16 : decode prog_2_method_1_code 16 = .ok (.bipush 10, 2) := ge_bipush (by decide +kernel)
theorem d_X0_init_18 : decode prog_2_method_1_code 18 = .ok (.newarray .int, 2) := by decide +kernel
theorem d_X0_init_20 : decode prog_2_method_1_code 20 = .ok (.putfield 16, 3) := ge_putfield (by decide +kernel)
theorem d_X0_init_23 : decode prog_2_method_1_code 23 = .ok (.aload_n 0, 1) := ge_aload_n_0 (by decide +kernel)
theorem d_X0_init_24 : decode prog_2_method_1_code 24 = .ok (.bipush 10, 2) := ge_bipush (by decide +kernel)
theorem d_X0_init_26 : decode prog_2_method_1_code 26 = .ok (.newarray .int, 2) := by decide +kernel
theorem d_X0_init_28 : decode prog_2_method_1_code 28 = .ok (.putfield 20, 3) := ge_putfield (by decide +kernel)
theorem d_X0_init_31 : decode prog_2_method_1_code 31 = .ok (.aload_n 0, 1) := ge_aload_n_0 (by decide +kernel)
theorem d_X0_init_32 : decode prog_2_method_1_code 32 = .ok (.bipush 100, 2) := ge_bipush (by decide +kernel)
theorem d_X0_init_34 : decode prog_2_method_1_code 34 = .ok (.newarray .int, 2) := by decide +kernel
theorem d_X0_init_36 : decode prog_2_method_1_code 36 = .ok (.putfield 23, 3) := ge_putfield (by decide +kernel)
theorem d_X0_init_39 : decode prog_2_method_1_code 39 = .ok (.aload_n 0, 1) := ge_aload_n_0 (by decide +kernel)
theorem d_X0_init_40 : decode prog_2_method_1_code 40 = .ok (.iconst 0, 1) := ge_iconst_0 (by decide +kernel)
theorem d_X0_init_41 : decode prog_2_method_1_code 41 = .ok (.newarray .int, 2) := by decide +kernel
theorem d_X0_init_43 : decode prog_2_method_1_code 43 = .ok (.putfield 26, 3) := ge_putfield (by decide +kernel)
theorem d_X0_init_46 : decode prog_2_method_1_code 46 = .ok (.return_, 1) := ge_return_ (by decide +kernel)
def f_X0_init (a0 : Nat) (μ : gm_M) : Option (Option Value × gm_M) := if gm_tag μ a0 ≠ 0 then gm_pI μ [5] a0 0 (0 : Int32) (fun m2 => gm_pI m2 [5] a0 1 (20 : Int32) (fun m3 => gm_nA m3 1 (10 : Int32) 10 (fun q4 m5 => gm_pR m5 [5] a0 3 q4 (fun m6 => gm_nA m6 1 (10 : Int32) 10 (fun q7 m8 => gm_pR m8 [5] a0 4 q7 (fun m9 => gm_nA m9 1 (100 : Int32) 100 (fun q10 m11 => gm_pR m11 [5] a0 5 q10 (fun m12 => gm_nA m12 1 (0 : Int32) 0 (fun q13 m14 => gm_pR m14 [5] a0 7 q13 (fun m15 => some (none, m15))))))))))) else none
set_option maxHeartbeats 4000000 in
theorem c_X0_init (a0 : Nat) (μ : gm_M) : gm_Call ({ cls := "GumBubble$Afternoon", name := "<init>", desc := "()V" } : Jvm.MethodName) prog_2_method_1_code 1 none 1 4 120 [.ref a0] μ (f_X0_init a0 μ) := by
  refine gm_start PN_0 (Nat.le_of_ble_eq_true rfl) (fun res μe => ?_)
  unfold f_X0_init
  show gm_A "GumBubble$Afternoon" (gm_nm "<init>") _ _ _ _ _ _ _ _ _ 0 [(0, .ref a0)] [] _ _
  refine gm_aload_n d_X0_init_0 rfl 0 rfl ?_
  refine gm_grd (fun g1 => ?_)
  refine gm_obj g1 gw_124 gw_27 gw_28 (Nat.le_of_ble_eq_true rfl) (Nat.le_of_ble_eq_true rfl) rfl d_X0_init_1 ?_
  refine gm_aload_n d_X0_init_4 rfl 0 rfl ?_
  refine gm_iconst (v := 0) d_X0_init_5 (by decide) ?_
  refine gm_putI F_0_wind (Or.inl rfl) gw_125 d_X0_init_6 (fun m2 _ => ?_)
  refine gm_aload_n d_X0_init_9 rfl 0 rfl ?_
  refine gm_bipush (v := 20) d_X0_init_10 (by decide) ?_
  refine gm_putI F_0_sweet (Or.inl rfl) gw_128 d_X0_init_12 (fun m3 _ => ?_)
  refine gm_aload_n d_X0_init_15 rfl 0 rfl ?_
  refine gm_bipush (v := 10) d_X0_init_16 (by decide) ?_
  refine gm_newaI (B := 10) (Nat.le_of_ble_eq_true rfl) gw_51 (Nat.le_of_ble_eq_true rfl) (Nat.le_of_ble_eq_true rfl) d_X0_init_18 (fun q4 m5 _ _ => ?_)
  refine gm_putR F_0_amounts (Or.inr ⟨rfl, rfl⟩) gw_131 d_X0_init_20 (fun m6 _ => ?_)
  refine gm_aload_n d_X0_init_23 rfl 0 rfl ?_
  refine gm_bipush (v := 10) d_X0_init_24 (by decide) ?_
  refine gm_newaI (B := 10) (Nat.le_of_ble_eq_true rfl) gw_51 (Nat.le_of_ble_eq_true rfl) (Nat.le_of_ble_eq_true rfl) d_X0_init_26 (fun q7 m8 _ _ => ?_)
  refine gm_putR F_0_ends (Or.inr ⟨rfl, rfl⟩) gw_132 d_X0_init_28 (fun m9 _ => ?_)
  refine gm_aload_n d_X0_init_31 rfl 0 rfl ?_
  refine gm_bipush (v := 100) d_X0_init_32 (by decide) ?_
  refine gm_newaI (B := 100) (Nat.le_of_ble_eq_true rfl) gw_51 (Nat.le_of_ble_eq_true rfl) (Nat.le_of_ble_eq_true rfl) d_X0_init_34 (fun q10 m11 _ _ => ?_)
  refine gm_putR F_0_code (Or.inr ⟨rfl, rfl⟩) gw_133 d_X0_init_36 (fun m12 _ => ?_)
  refine gm_aload_n d_X0_init_39 rfl 0 rfl ?_
  refine gm_iconst (v := 0) d_X0_init_40 (by decide) ?_
  refine gm_newaI (B := 0) (Nat.le_of_ble_eq_true rfl) gw_51 (Nat.le_of_ble_eq_true rfl) (Nat.le_of_ble_eq_true rfl) d_X0_init_41 (fun q13 m14 _ _ => ?_)
  refine gm_putR F_0_tape (Or.inl rfl) gw_135 d_X0_init_43 (fun m15 _ => ?_)
  exact gm_vret rfl d_X0_init_46 (Nat.le_of_ble_eq_true rfl) (Nat.le_of_ble_eq_true rfl) (fun h => h)
theorem d_X0_passes_0 : decode prog_2_method_16_code 0 = .ok (.iload_n 0, 1) := ge_iload_n_0 (by decide +kernel)
theorem d_X0_passes_1 : decode prog_2_method_16_code 1 = .ok (.sipush 1000, 3) := ge_sipush (by decide +kernel)
theorem d_X0_passes_4 : decode prog_2_method_16_code 4 = .ok (.idiv, 1) := ge_idiv (by decide +kernel)
theorem d_X0_passes_5 : decode prog_2_method_16_code 5 = .ok (.tableswitch 81 0 4 #[35, 43, 54, 62, 70], 35) := by decide +kernel
theorem d_X0_passes_40 : decode prog_2_method_16_code 40 = .ok (.aload_n 1, 1) := ge_aload_n_1 (by decide +kernel)
theorem d_X0_passes_41 : decode prog_2_method_16_code 41 = .ok (.getfield 122, 3) := ge_getfield (by decide +kernel)
theorem d_X0_passes_44 : decode prog_2_method_16_code 44 = .ok (.istore_n 3, 1) := ge_istore_n_3 (by decide +kernel)
theorem d_X0_passes_45 : decode prog_2_method_16_code 45 = .ok (.goto 46, 3) := ge_goto (by decide +kernel)
theorem d_X0_passes_48 : decode prog_2_method_16_code 48 = .ok (.aload_n 1, 1) := ge_aload_n_1 (by decide +kernel)
theorem d_X0_passes_49 : decode prog_2_method_16_code 49 = .ok (.getfield 127, 3) := ge_getfield (by decide +kernel)
theorem d_X0_passes_52 : decode prog_2_method_16_code 52 = .ok (.getfield 131, 3) := ge_getfield (by decide +kernel)
theorem d_X0_passes_55 : decode prog_2_method_16_code 55 = .ok (.istore_n 3, 1) := ge_istore_n_3 (by decide +kernel)
theorem d_X0_passes_56 : decode prog_2_method_16_code 56 = .ok (.goto 35, 3) := ge_goto (by decide +kernel)
theorem d_X0_passes_59 : decode prog_2_method_16_code 59 = .ok (.aload_n 1, 1) := ge_aload_n_1 (by decide +kernel)
theorem d_X0_passes_60 : decode prog_2_method_16_code 60 = .ok (.getfield 134, 3) := ge_getfield (by decide +kernel)
theorem d_X0_passes_63 : decode prog_2_method_16_code 63 = .ok (.istore_n 3, 1) := ge_istore_n_3 (by decide +kernel)
theorem d_X0_passes_64 : decode prog_2_method_16_code 64 = .ok (.goto 27, 3) := ge_goto (by decide +kernel)
theorem d_X0_passes_67 : decode prog_2_method_16_code 67 = .ok (.aload_n 1, 1) := ge_aload_n_1 (by decide +kernel)
theorem d_X0_passes_68 : decode prog_2_method_16_code 68 = .ok (.getfield 137, 3) := ge_getfield (by decide +kernel)
theorem d_X0_passes_71 : decode prog_2_method_16_code 71 = .ok (.istore_n 3, 1) := ge_istore_n_3 (by decide +kernel)
theorem d_X0_passes_72 : decode prog_2_method_16_code 72 = .ok (.goto 19, 3) := ge_goto (by decide +kernel)
theorem d_X0_passes_75 : decode prog_2_method_16_code 75 = .ok (.aload_n 1, 1) := ge_aload_n_1 (by decide +kernel)
theorem d_X0_passes_76 : decode prog_2_method_16_code 76 = .ok (.getfield 140, 3) := ge_getfield (by decide +kernel)
theorem d_X0_passes_79 : decode prog_2_method_16_code 79 = .ok (.bipush 10, 2) := ge_bipush (by decide +kernel)
theorem d_X0_passes_81 : decode prog_2_method_16_code 81 = .ok (.idiv, 1) := ge_idiv (by decide +kernel)
theorem d_X0_passes_82 : decode prog_2_method_16_code 82 = .ok (.istore_n 3, 1) := ge_istore_n_3 (by decide +kernel)
theorem d_X0_passes_83 : decode prog_2_method_16_code 83 = .ok (.goto 8, 3) := ge_goto (by decide +kernel)
theorem d_X0_passes_86 : decode prog_2_method_16_code 86 = .ok (.iload_n 2, 1) := ge_iload_n_2 (by decide +kernel)
theorem d_X0_passes_87 : decode prog_2_method_16_code 87 = .ok (.bipush 10, 2) := ge_bipush (by decide +kernel)
theorem d_X0_passes_89 : decode prog_2_method_16_code 89 = .ok (.irem, 1) := ge_irem (by decide +kernel)
theorem d_X0_passes_90 : decode prog_2_method_16_code 90 = .ok (.istore_n 3, 1) := ge_istore_n_3 (by decide +kernel)
theorem d_X0_passes_91 : decode prog_2_method_16_code 91 = .ok (.iload_n 0, 1) := ge_iload_n_0 (by decide +kernel)
theorem d_X0_passes_92 : decode prog_2_method_16_code 92 = .ok (.bipush 100, 2) := ge_bipush (by decide +kernel)
theorem d_X0_passes_94 : decode prog_2_method_16_code 94 = .ok (.irem, 1) := ge_irem (by decide +kernel)
theorem d_X0_passes_95 : decode prog_2_method_16_code 95 = .ok (.istore 4, 2) := ge_istore (by decide +kernel)
theorem d_X0_passes_97 : decode prog_2_method_16_code 97 = .ok (.iload_n 0, 1) := ge_iload_n_0 (by decide +kernel)
theorem d_X0_passes_98 : decode prog_2_method_16_code 98 = .ok (.bipush 100, 2) := ge_bipush (by decide +kernel)
theorem d_X0_passes_100 : decode prog_2_method_16_code 100 = .ok (.idiv, 1) := ge_idiv (by decide +kernel)
theorem d_X0_passes_101 : decode prog_2_method_16_code 101 = .ok (.bipush 10, 2) := ge_bipush (by decide +kernel)
theorem d_X0_passes_103 : decode prog_2_method_16_code 103 = .ok (.irem, 1) := ge_irem (by decide +kernel)
theorem d_X0_passes_104 : decode prog_2_method_16_code 104 = .ok (.lookupswitch 52 #[(0, 28), (1, 40)], 28) := by decide +kernel
theorem d_X0_passes_132 : decode prog_2_method_16_code 132 = .ok (.iload_n 3, 1) := ge_iload_n_3 (by decide +kernel)
theorem d_X0_passes_133 : decode prog_2_method_16_code 133 = .ok (.iload 4, 2) := ge_iload (by decide +kernel)
theorem d_X0_passes_135 : decode prog_2_method_16_code 135 = .ok (.if_icmp .ge 7, 3) := ge_if_icmp_ge (by decide +kernel)
theorem d_X0_passes_138 : decode prog_2_method_16_code 138 = .ok (.iconst 1, 1) := ge_iconst_1 (by decide +kernel)
theorem d_X0_passes_139 : decode prog_2_method_16_code 139 = .ok (.goto 4, 3) := ge_goto (by decide +kernel)
theorem d_X0_passes_142 : decode prog_2_method_16_code 142 = .ok (.iconst 0, 1) := ge_iconst_0 (by decide +kernel)
theorem d_X0_passes_143 : decode prog_2_method_16_code 143 = .ok (.ireturn, 1) := ge_ireturn (by decide +kernel)
theorem d_X0_passes_144 : decode prog_2_method_16_code 144 = .ok (.iload_n 3, 1) := ge_iload_n_3 (by decide +kernel)
theorem d_X0_passes_145 : decode prog_2_method_16_code 145 = .ok (.iload 4, 2) := ge_iload (by decide +kernel)
theorem d_X0_passes_147 : decode prog_2_method_16_code 147 = .ok (.if_icmp .ne 7, 3) := ge_if_icmp_ne (by decide +kernel)
theorem d_X0_passes_150 : decode prog_2_method_16_code 150 = .ok (.iconst 1, 1) := ge_iconst_1 (by decide +kernel)
theorem d_X0_passes_151 : decode prog_2_method_16_code 151 = .ok (.goto 4, 3) := ge_goto (by decide +kernel)
theorem d_X0_passes_154 : decode prog_2_method_16_code 154 = .ok (.iconst 0, 1) := ge_iconst_0 (by decide +kernel)
theorem d_X0_passes_155 : decode prog_2_method_16_code 155 = .ok (.ireturn, 1) := ge_ireturn (by decide +kernel)
theorem d_X0_passes_156 : decode prog_2_method_16_code 156 = .ok (.iload_n 3, 1) := ge_iload_n_3 (by decide +kernel)
theorem d_X0_passes_157 : decode prog_2_method_16_code 157 = .ok (.iload 4, 2) := ge_iload (by decide +kernel)
theorem d_X0_passes_159 : decode prog_2_method_16_code 159 = .ok (.if_icmp .le 7, 3) := ge_if_icmp_le (by decide +kernel)
theorem d_X0_passes_162 : decode prog_2_method_16_code 162 = .ok (.iconst 1, 1) := ge_iconst_1 (by decide +kernel)
theorem d_X0_passes_163 : decode prog_2_method_16_code 163 = .ok (.goto 4, 3) := ge_goto (by decide +kernel)
theorem d_X0_passes_166 : decode prog_2_method_16_code 166 = .ok (.iconst 0, 1) := ge_iconst_0 (by decide +kernel)
theorem d_X0_passes_167 : decode prog_2_method_16_code 167 = .ok (.ireturn, 1) := ge_ireturn (by decide +kernel)
def f_X0_passes (a0 : Int32) (a1 : Nat) (a2 : Int32) (μ : gm_M) : Option (Option Value × gm_M) := if (1000 : Int32) = 0 then none else gm_j (fun (s1 : Int32) => if (100 : Int32) = 0 then none else if (100 : Int32) = 0 then none else if (10 : Int32) = 0 then none else if ((a0 / (100 : Int32)) - (a0 / (100 : Int32)) / (10 : Int32) * (10 : Int32)) = 0 then if (a0 - a0 / (100 : Int32) * (100 : Int32)) ≤ s1 then if (0 : Int32) = 0 ∨ (0 : Int32) = 1 then some (some (.int (0 : Int32)), μ) else none else if (1 : Int32) = 0 ∨ (1 : Int32) = 1 then some (some (.int (1 : Int32)), μ) else none else if ((a0 / (100 : Int32)) - (a0 / (100 : Int32)) / (10 : Int32) * (10 : Int32)) = 1 then if s1 ≠ (a0 - a0 / (100 : Int32) * (100 : Int32)) then if (0 : Int32) = 0 ∨ (0 : Int32) = 1 then some (some (.int (0 : Int32)), μ) else none else if (1 : Int32) = 0 ∨ (1 : Int32) = 1 then some (some (.int (1 : Int32)), μ) else none else if s1 ≤ (a0 - a0 / (100 : Int32) * (100 : Int32)) then if (0 : Int32) = 0 ∨ (0 : Int32) = 1 then some (some (.int (0 : Int32)), μ) else none else if (1 : Int32) = 0 ∨ (1 : Int32) = 1 then some (some (.int (1 : Int32)), μ) else none) (fun j2 => if (a0 / (1000 : Int32)) = 0 then gm_gI μ [7] a1 0 (fun v3 => j2 v3) else if (a0 / (1000 : Int32)) = 1 then gm_gR μ [7] a1 1 (fun v4 => gm_gI μ [6, 8, 9, 10, 11, 14, 15] v4 0 (fun v5 => j2 v5)) else if (a0 / (1000 : Int32)) = 2 then gm_gI μ [7] a1 2 (fun v6 => j2 v6) else if (a0 / (1000 : Int32)) = 3 then gm_gI μ [7] a1 3 (fun v7 => j2 v7) else if (a0 / (1000 : Int32)) = 4 then gm_gI μ [7] a1 4 (fun v8 => if (10 : Int32) = 0 then none else j2 (v8 / (10 : Int32))) else if (10 : Int32) = 0 then none else j2 (a2 - a2 / (10 : Int32) * (10 : Int32)))
set_option maxHeartbeats 4000000 in
theorem c_X0_passes (a0 : Int32) (a1 : Nat) (a2 : Int32) (μ : gm_M) : gm_Call ({ cls := "GumBubble$Afternoon", name := "passes", desc := "(ILGumBubble$Child;I)Z" } : Jvm.MethodName) prog_2_method_16_code 5 (some .boolean) 0 0 0 [.int a0, .ref a1, .int a2] μ (f_X0_passes a0 a1 a2 μ) := by
  refine gm_start PN_0 (Nat.le_of_ble_eq_true rfl) (fun res μe => ?_)
  unfold f_X0_passes
  show gm_A "GumBubble$Afternoon" (gm_nm "passes") _ _ _ _ _ _ _ _ _ 0 [(0, .int a0), (1, .ref a1), (2, .int a2)] [] _ _
  refine gm_iload_n d_X0_passes_0 rfl 0 rfl ?_
  refine gm_sipush (v := 1000) d_X0_passes_1 (by decide) ?_
  refine gm_idiv d_X0_passes_4 ?_
  refine gm_join (S := Int32) (pj := 91) (kj := 0) (nj := 0) (fun s1 => μ) (fun s1 => [(0, .int a0), (1, .ref a1), (2, .int a2), (3, .int s1)]) (fun s1 => []) (fun s1 => ?_) (fun j2 hj2 => ?_)
  ·
    refine gm_iload_n d_X0_passes_91 rfl 0 rfl ?_
    refine gm_bipush (v := 100) d_X0_passes_92 (by decide) ?_
    refine gm_irem d_X0_passes_94 ?_
    refine gm_istore (L' := [(4, .int (a0 - a0 / (100 : Int32) * (100 : Int32))), (0, .int a0), (1, .ref a1), (2, .int a2), (3, .int s1)]) d_X0_passes_95 (Nat.le_of_ble_eq_true rfl) rfl ?_
    refine gm_iload_n d_X0_passes_97 rfl 1 rfl ?_
    refine gm_bipush (v := 100) d_X0_passes_98 (by decide) ?_
    refine gm_idiv d_X0_passes_100 ?_
    refine gm_bipush (v := 10) d_X0_passes_101 (by decide) ?_
    refine gm_irem d_X0_passes_103 ?_
    refine gm_ite (P := ((a0 / (100 : Int32)) - (a0 / (100 : Int32)) / (10 : Int32) * (10 : Int32)) = 0) (fun h104_0 => ?_) (fun h104_0 => ?_)
    ·
      refine gm_lkp (off := 28) (tgt := 132) d_X0_passes_104 (by decide) (by rw [h104_0] <;> rfl) (by decide) ?_
      refine gm_iload_n d_X0_passes_132 rfl 4 rfl ?_
      refine gm_iload d_X0_passes_133 0 rfl ?_
      refine gm_icmp_ge (tgt := 142) d_X0_passes_135 (by decide) (fun h135 => ?_) (fun h135 => ?_)
      ·
        refine gm_iconst (v := 0) d_X0_passes_142 (by decide) ?_
        exact gm_zret rfl d_X0_passes_143 (Nat.le_of_ble_eq_true rfl) (Nat.le_of_ble_eq_true rfl) (fun h => h)
      ·
        refine gm_iconst (v := 1) d_X0_passes_138 (by decide) ?_
        refine gm_goto (tgt := 143) d_X0_passes_139 (by decide) ?_
        exact gm_zret rfl d_X0_passes_143 (Nat.le_of_ble_eq_true rfl) (Nat.le_of_ble_eq_true rfl) (fun h => h)
    ·
      refine gm_ite (P := ((a0 / (100 : Int32)) - (a0 / (100 : Int32)) / (10 : Int32) * (10 : Int32)) = 1) (fun h104_1 => ?_) (fun h104_1 => ?_)
      ·
        refine gm_lkp (off := 40) (tgt := 144) d_X0_passes_104 (by decide) (by rw [h104_1] <;> rfl) (by decide) ?_
        refine gm_iload_n d_X0_passes_144 rfl 4 rfl ?_
        refine gm_iload d_X0_passes_145 0 rfl ?_
        refine gm_icmp_ne (tgt := 154) d_X0_passes_147 (by decide) (fun h147 => ?_) (fun h147 => ?_)
        ·
          refine gm_iconst (v := 0) d_X0_passes_154 (by decide) ?_
          exact gm_zret rfl d_X0_passes_155 (Nat.le_of_ble_eq_true rfl) (Nat.le_of_ble_eq_true rfl) (fun h => h)
        ·
          refine gm_iconst (v := 1) d_X0_passes_150 (by decide) ?_
          refine gm_goto (tgt := 155) d_X0_passes_151 (by decide) ?_
          exact gm_zret rfl d_X0_passes_155 (Nat.le_of_ble_eq_true rfl) (Nat.le_of_ble_eq_true rfl) (fun h => h)
      ·
        refine gm_lkp (off := 52) (tgt := 156) d_X0_passes_104 (by decide) (by show Op.lookupswitch.offset [(0, 28), (1, 40)] 52 _ = _; rw [lv_osw h104_0 (show (0 : Int32).toInt = 0 from rfl), lv_osw h104_1 (show (1 : Int32).toInt = 1 from rfl)] <;> rfl) (by decide) ?_
        refine gm_iload_n d_X0_passes_156 rfl 4 rfl ?_
        refine gm_iload d_X0_passes_157 0 rfl ?_
        refine gm_icmp_le (tgt := 166) d_X0_passes_159 (by decide) (fun h159 => ?_) (fun h159 => ?_)
        ·
          refine gm_iconst (v := 0) d_X0_passes_166 (by decide) ?_
          exact gm_zret rfl d_X0_passes_167 (Nat.le_of_ble_eq_true rfl) (Nat.le_of_ble_eq_true rfl) (fun h => h)
        ·
          refine gm_iconst (v := 1) d_X0_passes_162 (by decide) ?_
          refine gm_goto (tgt := 167) d_X0_passes_163 (by decide) ?_
          exact gm_zret rfl d_X0_passes_167 (Nat.le_of_ble_eq_true rfl) (Nat.le_of_ble_eq_true rfl) (fun h => h)
  ·
    refine gm_ite (P := (a0 / (1000 : Int32)) = 0) (fun h5_0 => ?_) (fun h5_0 => ?_)
    ·
      refine gm_swIn (v := 0) (off := 35) (tgt := 40) d_X0_passes_5 (by rw [h5_0] <;> rfl) (by decide) (by decide) (by decide) (by decide) ?_
      refine gm_aload_n d_X0_passes_40 rfl 1 rfl ?_
      refine gm_getI F_2_number gw_169 d_X0_passes_41 (fun v3 _ => ?_)
      refine gm_istore_n (L' := [(3, .int v3), (0, .int a0), (1, .ref a1), (2, .int a2)]) d_X0_passes_44 rfl (Nat.le_of_ble_eq_true rfl) rfl ?_
      refine gm_goto (tgt := 91) d_X0_passes_45 (by decide) ?_
      refine gm_sub (L' := [(0, .int a0), (1, .ref a1), (2, .int a2), (3, .int v3)]) [1, 2, 3, 0] rfl ?_
      exact hj2 v3
    ·
      refine gm_ite (P := (a0 / (1000 : Int32)) = 1) (fun h5_1 => ?_) (fun h5_1 => ?_)
      ·
        refine gm_swIn (v := 1) (off := 43) (tgt := 48) d_X0_passes_5 (by rw [h5_1] <;> rfl) (by decide) (by decide) (by decide) (by decide) ?_
        refine gm_aload_n d_X0_passes_48 rfl 1 rfl ?_
        refine gm_getR F_2_kind gw_173 d_X0_passes_49 (fun v4 _ => ?_)
        refine gm_getI F_5_number gw_59 d_X0_passes_52 (fun v5 _ => ?_)
        refine gm_istore_n (L' := [(3, .int v5), (0, .int a0), (1, .ref a1), (2, .int a2)]) d_X0_passes_55 rfl (Nat.le_of_ble_eq_true rfl) rfl ?_
        refine gm_goto (tgt := 91) d_X0_passes_56 (by decide) ?_
        refine gm_sub (L' := [(0, .int a0), (1, .ref a1), (2, .int a2), (3, .int v5)]) [1, 2, 3, 0] rfl ?_
        exact hj2 v5
      ·
        refine gm_ite (P := (a0 / (1000 : Int32)) = 2) (fun h5_2 => ?_) (fun h5_2 => ?_)
        ·
          refine gm_swIn (v := 2) (off := 54) (tgt := 59) d_X0_passes_5 (by rw [h5_2] <;> rfl) (by decide) (by decide) (by decide) (by decide) ?_
          refine gm_aload_n d_X0_passes_59 rfl 1 rfl ?_
          refine gm_getI F_2_v gw_178 d_X0_passes_60 (fun v6 _ => ?_)
          refine gm_istore_n (L' := [(3, .int v6), (0, .int a0), (1, .ref a1), (2, .int a2)]) d_X0_passes_63 rfl (Nat.le_of_ble_eq_true rfl) rfl ?_
          refine gm_goto (tgt := 91) d_X0_passes_64 (by decide) ?_
          refine gm_sub (L' := [(0, .int a0), (1, .ref a1), (2, .int a2), (3, .int v6)]) [1, 2, 3, 0] rfl ?_
          exact hj2 v6
        ·
          refine gm_ite (P := (a0 / (1000 : Int32)) = 3) (fun h5_3 => ?_) (fun h5_3 => ?_)
          ·
            refine gm_swIn (v := 3) (off := 62) (tgt := 67) d_X0_passes_5 (by rw [h5_3] <;> rfl) (by decide) (by decide) (by decide) (by decide) ?_
            refine gm_aload_n d_X0_passes_67 rfl 1 rfl ?_
            refine gm_getI F_2_pieces gw_186 d_X0_passes_68 (fun v7 _ => ?_)
            refine gm_istore_n (L' := [(3, .int v7), (0, .int a0), (1, .ref a1), (2, .int a2)]) d_X0_passes_71 rfl (Nat.le_of_ble_eq_true rfl) rfl ?_
            refine gm_goto (tgt := 91) d_X0_passes_72 (by decide) ?_
            refine gm_sub (L' := [(0, .int a0), (1, .ref a1), (2, .int a2), (3, .int v7)]) [1, 2, 3, 0] rfl ?_
            exact hj2 v7
          ·
            refine gm_ite (P := (a0 / (1000 : Int32)) = 4) (fun h5_4 => ?_) (fun h5_4 => ?_)
            ·
              refine gm_swIn (v := 4) (off := 70) (tgt := 75) d_X0_passes_5 (by rw [h5_4] <;> rfl) (by decide) (by decide) (by decide) (by decide) ?_
              refine gm_aload_n d_X0_passes_75 rfl 1 rfl ?_
              refine gm_getI F_2_sugar gw_189 d_X0_passes_76 (fun v8 _ => ?_)
              refine gm_bipush (v := 10) d_X0_passes_79 (by decide) ?_
              refine gm_idiv d_X0_passes_81 ?_
              refine gm_istore_n (L' := [(3, .int (v8 / (10 : Int32))), (0, .int a0), (1, .ref a1), (2, .int a2)]) d_X0_passes_82 rfl (Nat.le_of_ble_eq_true rfl) rfl ?_
              refine gm_goto (tgt := 91) d_X0_passes_83 (by decide) ?_
              refine gm_sub (L' := [(0, .int a0), (1, .ref a1), (2, .int a2), (3, .int (v8 / (10 : Int32)))]) [1, 2, 3, 0] rfl ?_
              exact hj2 (v8 / (10 : Int32))
            ·
              refine gm_swOut (tgt := 86) d_X0_passes_5 (by have g0 := lv_neT h5_0 (show (0 : Int32).toInt = 0 from rfl); have g1 := lv_neT h5_1 (show (1 : Int32).toInt = 1 from rfl); have g2 := lv_neT h5_2 (show (2 : Int32).toInt = 2 from rfl); have g3 := lv_neT h5_3 (show (3 : Int32).toInt = 3 from rfl); have g4 := lv_neT h5_4 (show (4 : Int32).toInt = 4 from rfl); omega) (by decide) ?_
              refine gm_iload_n d_X0_passes_86 rfl 2 rfl ?_
              refine gm_bipush (v := 10) d_X0_passes_87 (by decide) ?_
              refine gm_irem d_X0_passes_89 ?_
              refine gm_istore_n (L' := [(3, .int (a2 - a2 / (10 : Int32) * (10 : Int32))), (0, .int a0), (1, .ref a1), (2, .int a2)]) d_X0_passes_90 rfl (Nat.le_of_ble_eq_true rfl) rfl ?_
              refine gm_sub (L' := [(0, .int a0), (1, .ref a1), (2, .int a2), (3, .int (a2 - a2 / (10 : Int32) * (10 : Int32)))]) [1, 2, 3, 0] rfl ?_
              exact hj2 (a2 - a2 / (10 : Int32) * (10 : Int32))
theorem d_X0_isSo_0 : decode prog_2_method_15_code 0 = .ok (.iconst 0, 1) := ge_iconst_0 (by decide +kernel)
theorem d_X0_isSo_1 : decode prog_2_method_15_code 1 = .ok (.istore 5, 2) := ge_istore (by decide +kernel)
theorem d_X0_isSo_3 : decode prog_2_method_15_code 3 = .ok (.iload_n 1, 1) := ge_iload_n_1 (by decide +kernel)
theorem d_X0_isSo_4 : decode prog_2_method_15_code 4 = .ok (.istore 6, 2) := ge_istore (by decide +kernel)
theorem d_X0_isSo_6 : decode prog_2_method_15_code 6 = .ok (.iload 6, 2) := ge_iload (by decide +kernel)
theorem d_X0_isSo_8 : decode prog_2_method_15_code 8 = .ok (.iload_n 2, 1) := ge_iload_n_2 (by decide +kernel)
theorem d_X0_isSo_9 : decode prog_2_method_15_code 9 = .ok (.if_icmp .ge 111, 3) := ge_if_icmp_ge (by decide +kernel)
theorem d_X0_isSo_12 : decode prog_2_method_15_code 12 = .ok (.aload_n 0, 1) := ge_aload_n_0 (by decide +kernel)
theorem d_X0_isSo_13 : decode prog_2_method_15_code 13 = .ok (.getfield 23, 3) := ge_getfield (by decide +kernel)
theorem d_X0_isSo_16 : decode prog_2_method_15_code 16 = .ok (.iload 6, 2) := ge_iload (by decide +kernel)
theorem d_X0_isSo_18 : decode prog_2_method_15_code 18 = .ok (.iaload, 1) := ge_iaload (by decide +kernel)
theorem d_X0_isSo_19 : decode prog_2_method_15_code 19 = .ok (.istore 7, 2) := ge_istore (by decide +kernel)
theorem d_X0_isSo_21 : decode prog_2_method_15_code 21 = .ok (.iload 7, 2) := ge_iload (by decide +kernel)
theorem d_X0_isSo_23 : decode prog_2_method_15_code 23 = .ok (.iconst (-1), 1) := ge_iconst_m1_ (by decide +kernel)
theorem d_X0_isSo_24 : decode prog_2_method_15_code 24 = .ok (.if_icmp .ne 12, 3) := ge_if_icmp_ne (by decide +kernel)
theorem d_X0_isSo_27 : decode prog_2_method_15_code 27 = .ok (.iload 5, 2) := ge_iload (by decide +kernel)
theorem d_X0_isSo_29 : decode prog_2_method_15_code 29 = .ok (.iconst 1, 1) := ge_iconst_1 (by decide +kernel)
theorem d_X0_isSo_30 : decode prog_2_method_15_code 30 = .ok (.ixor, 1) := ge_ixor (by decide +kernel)
theorem d_X0_isSo_31 : decode prog_2_method_15_code 31 = .ok (.istore 5, 2) := ge_istore (by decide +kernel)
theorem d_X0_isSo_33 : decode prog_2_method_15_code 33 = .ok (.goto 81, 3) := ge_goto (by decide +kernel)
theorem d_X0_isSo_36 : decode prog_2_method_15_code 36 = .ok (.iload 7, 2) := ge_iload (by decide +kernel)
theorem d_X0_isSo_38 : decode prog_2_method_15_code 38 = .ok (.bipush (-2), 2) := ge_bipush (by decide +kernel)
theorem d_X0_isSo_40 : decode prog_2_method_15_code 40 = .ok (.if_icmp .ne 30, 3) := ge_if_icmp_ne (by decide +kernel)
theorem d_X0_isSo_43 : decode prog_2_method_15_code 43 = .ok (.iload 5, 2) := ge_iload (by decide +kernel)
theorem d_X0_isSo_45 : decode prog_2_method_15_code 45 = .ok (.iconst 1, 1) := ge_iconst_1 (by decide +kernel)
theorem d_X0_isSo_46 : decode prog_2_method_15_code 46 = .ok (.iand, 1) := ge_iand (by decide +kernel)
theorem d_X0_isSo_47 : decode prog_2_method_15_code 47 = .ok (.iconst 1, 1) := ge_iconst_1 (by decide +kernel)
theorem d_X0_isSo_48 : decode prog_2_method_15_code 48 = .ok (.if_icmp .ne 10, 3) := ge_if_icmp_ne (by decide +kernel)
theorem d_X0_isSo_51 : decode prog_2_method_15_code 51 = .ok (.iload 5, 2) := ge_iload (by decide +kernel)
theorem d_X0_isSo_53 : decode prog_2_method_15_code 53 = .ok (.iconst 1, 1) := ge_iconst_1 (by decide +kernel)
theorem d_X0_isSo_54 : decode prog_2_method_15_code 54 = .ok (.ishr, 1) := ge_ishr (by decide +kernel)
theorem d_X0_isSo_55 : decode prog_2_method_15_code 55 = .ok (.goto 10, 3) := ge_goto (by decide +kernel)
theorem d_X0_isSo_58 : decode prog_2_method_15_code 58 = .ok (.iload 5, 2) := ge_iload (by decide +kernel)
theorem d_X0_isSo_60 : decode prog_2_method_15_code 60 = .ok (.iconst 1, 1) := ge_iconst_1 (by decide +kernel)
theorem d_X0_isSo_61 : decode prog_2_method_15_code 61 = .ok (.ishr, 1) := ge_ishr (by decide +kernel)
theorem d_X0_isSo_62 : decode prog_2_method_15_code 62 = .ok (.bipush (-2), 2) := ge_bipush (by decide +kernel)
theorem d_X0_isSo_64 : decode prog_2_method_15_code 64 = .ok (.iand, 1) := ge_iand (by decide +kernel)
theorem d_X0_isSo_65 : decode prog_2_method_15_code 65 = .ok (.istore 5, 2) := ge_istore (by decide +kernel)
theorem d_X0_isSo_67 : decode prog_2_method_15_code 67 = .ok (.goto 47, 3) := ge_goto (by decide +kernel)
theorem d_X0_isSo_70 : decode prog_2_method_15_code 70 = .ok (.iload 7, 2) := ge_iload (by decide +kernel)
theorem d_X0_isSo_72 : decode prog_2_method_15_code 72 = .ok (.bipush (-3), 2) := ge_bipush (by decide +kernel)
theorem d_X0_isSo_74 : decode prog_2_method_15_code 74 = .ok (.if_icmp .ne 17, 3) := ge_if_icmp_ne (by decide +kernel)
theorem d_X0_isSo_77 : decode prog_2_method_15_code 77 = .ok (.iload 5, 2) := ge_iload (by decide +kernel)
theorem d_X0_isSo_79 : decode prog_2_method_15_code 79 = .ok (.iconst 1, 1) := ge_iconst_1 (by decide +kernel)
theorem d_X0_isSo_80 : decode prog_2_method_15_code 80 = .ok (.ishr, 1) := ge_ishr (by decide +kernel)
theorem d_X0_isSo_81 : decode prog_2_method_15_code 81 = .ok (.iload 5, 2) := ge_iload (by decide +kernel)
theorem d_X0_isSo_83 : decode prog_2_method_15_code 83 = .ok (.iconst 1, 1) := ge_iconst_1 (by decide +kernel)
theorem d_X0_isSo_84 : decode prog_2_method_15_code 84 = .ok (.iand, 1) := ge_iand (by decide +kernel)
theorem d_X0_isSo_85 : decode prog_2_method_15_code 85 = .ok (.ior, 1) := ge_ior (by decide +kernel)
theorem d_X0_isSo_86 : decode prog_2_method_15_code 86 = .ok (.istore 5, 2) := ge_istore (by decide +kernel)
theorem d_X0_isSo_88 : decode prog_2_method_15_code 88 = .ok (.goto 26, 3) := ge_goto (by decide +kernel)
theorem d_X0_isSo_91 : decode prog_2_method_15_code 91 = .ok (.iload 5, 2) := ge_iload (by decide +kernel)
theorem d_X0_isSo_93 : decode prog_2_method_15_code 93 = .ok (.iconst 1, 1) := ge_iconst_1 (by decide +kernel)
theorem d_X0_isSo_94 : decode prog_2_method_15_code 94 = .ok (.ishl, 1) := ge_ishl (by decide +kernel)
theorem d_X0_isSo_95 : decode prog_2_method_15_code 95 = .ok (.iload 7, 2) := ge_iload (by decide +kernel)
theorem d_X0_isSo_97 : decode prog_2_method_15_code 97 = .ok (.aload_n 3, 1) := ge_aload_n_3 (by decide +kernel)
theorem d_X0_isSo_98 : decode prog_2_method_15_code 98 = .ok (.iload 4, 2) := ge_iload (by decide +kernel)
theorem d_X0_isSo_100 : decode prog_2_method_15_code 100 = .ok (.invokestatic 118, 3) := ge_invokestatic (by decide +kernel)
theorem d_X0_isSo_103 : decode prog_2_method_15_code 103 = .ok (.ifCond .eq 7, 3) := ge_ifCond_eq (by decide +kernel)
theorem d_X0_isSo_106 : decode prog_2_method_15_code 106 = .ok (.iconst 1, 1) := ge_iconst_1 (by decide +kernel)
theorem d_X0_isSo_107 : decode prog_2_method_15_code 107 = .ok (.goto 4, 3) := ge_goto (by decide +kernel)
theorem d_X0_isSo_110 : decode prog_2_method_15_code 110 = .ok (.iconst 0, 1) := ge_iconst_0 (by decide +kernel)
theorem d_X0_isSo_111 : decode prog_2_method_15_code 111 = .ok (.ior, 1) := ge_ior (by decide +kernel)
theorem d_X0_isSo_112 : decode prog_2_method_15_code 112 = .ok (.istore 5, 2) := ge_istore (by decide +kernel)
theorem d_X0_isSo_114 : decode prog_2_method_15_code 114 = .ok (.iinc 6 1, 3) := ge_iinc (by decide +kernel)
theorem d_X0_isSo_117 : decode prog_2_method_15_code 117 = .ok (.goto (-111), 3) := ge_goto (by decide +kernel)
theorem d_X0_isSo_120 : decode prog_2_method_15_code 120 = .ok (.iload 5, 2) := ge_iload (by decide +kernel)
theorem d_X0_isSo_122 : decode prog_2_method_15_code 122 = .ok (.iconst 1, 1) := ge_iconst_1 (by decide +kernel)
theorem d_X0_isSo_123 : decode prog_2_method_15_code 123 = .ok (.iand, 1) := ge_iand (by decide +kernel)
theorem d_X0_isSo_124 : decode prog_2_method_15_code 124 = .ok (.iconst 1, 1) := ge_iconst_1 (by decide +kernel)
theorem d_X0_isSo_125 : decode prog_2_method_15_code 125 = .ok (.if_icmp .ne 7, 3) := ge_if_icmp_ne (by decide +kernel)
theorem d_X0_isSo_128 : decode prog_2_method_15_code 128 = .ok (.iconst 1, 1) := ge_iconst_1 (by decide +kernel)
theorem d_X0_isSo_129 : decode prog_2_method_15_code 129 = .ok (.goto 4, 3) := ge_goto (by decide +kernel)
theorem d_X0_isSo_132 : decode prog_2_method_15_code 132 = .ok (.iconst 0, 1) := ge_iconst_0 (by decide +kernel)
theorem d_X0_isSo_133 : decode prog_2_method_15_code 133 = .ok (.ireturn, 1) := ge_ireturn (by decide +kernel)
def f_X0_isSo (a0 : Nat) (a1 : Int32) (a2 : Int32) (a3 : Nat) (a4 : Int32) (μ : gm_M) : Option (Option Value × gm_M) := gm_loop (fun (s1 : Int32 × Int32 × gm_M) => if a2 ≤ s1.2.1 then if (s1.1 &&& (1 : Int32)) ≠ (1 : Int32) then if (0 : Int32) = 0 ∨ (0 : Int32) = 1 then some (Sum.inr (some (.int (0 : Int32)), s1.2.2)) else none else if (1 : Int32) = 0 ∨ (1 : Int32) = 1 then some (Sum.inr (some (.int (1 : Int32)), s1.2.2)) else none else gm_gR s1.2.2 [5] a0 5 (fun v2 => gm_aI s1.2.2 v2 s1.2.1 (fun v3 => gm_j (fun (s4 : Int32 × gm_M) => some (Sum.inl (s4.1, (s1.2.1 + (1 : Int32)), s4.2))) (fun j5 => if v3 ≠ (-1 : Int32) then if v3 ≠ (-2 : Int32) then if v3 ≠ (-3 : Int32) then gm_bI (f_X0_passes v3 a3 a4 s1.2.2) (fun x7 m6 => gm_j (fun (s8 : Int32) => j5 (((s1.1 <<< ((1 : Int32) &&& 31)) ||| s8), m6)) (fun j9 => if x7 = 0 then j9 (0 : Int32) else j9 (1 : Int32))) else j5 (((s1.1 >>> ((1 : Int32) &&& 31)) ||| (s1.1 &&& (1 : Int32))), s1.2.2) else gm_j (fun (s10 : Int32) => j5 (s10, s1.2.2)) (fun j11 => if (s1.1 &&& (1 : Int32)) ≠ (1 : Int32) then j11 ((s1.1 >>> ((1 : Int32) &&& 31)) &&& (-2 : Int32)) else j11 (s1.1 >>> ((1 : Int32) &&& 31))) else j5 ((s1.1 ^^^ (1 : Int32)), s1.2.2))))) 5000 ((0 : Int32), a1, μ)
set_option maxHeartbeats 4000000 in
theorem c_X0_isSo (a0 : Nat) (a1 : Int32) (a2 : Int32) (a3 : Nat) (a4 : Int32) (μ : gm_M) : gm_Call ({ cls := "GumBubble$Afternoon", name := "isSo", desc := "(IILGumBubble$Child;I)Z" } : Jvm.MethodName) prog_2_method_15_code 8 (some .boolean) 1 0 0 [.ref a0, .int a1, .int a2, .ref a3, .int a4] μ (f_X0_isSo a0 a1 a2 a3 a4 μ) := by
  refine gm_start PN_0 (Nat.le_of_ble_eq_true rfl) (fun res μe => ?_)
  unfold f_X0_isSo
  show gm_A "GumBubble$Afternoon" (gm_nm "isSo") _ _ _ _ _ _ _ _ _ 0 [(0, .ref a0), (1, .int a1), (2, .int a2), (3, .ref a3), (4, .int a4)] [] _ _
  refine gm_iconst (v := 0) d_X0_isSo_0 (by decide) ?_
  refine gm_istore (L' := [(5, .int (0 : Int32)), (0, .ref a0), (1, .int a1), (2, .int a2), (3, .ref a3), (4, .int a4)]) d_X0_isSo_1 (Nat.le_of_ble_eq_true rfl) rfl ?_
  refine gm_iload_n d_X0_isSo_3 rfl 2 rfl ?_
  refine gm_istore (L' := [(6, .int a1), (5, .int (0 : Int32)), (0, .ref a0), (1, .int a1), (2, .int a2), (3, .ref a3), (4, .int a4)]) d_X0_isSo_4 (Nat.le_of_ble_eq_true rfl) rfl ?_
  refine gm_sub (L' := [(0, .ref a0), (1, .int a1), (2, .int a2), (3, .ref a3), (4, .int a4), (5, .int (0 : Int32)), (6, .int a1)]) [2, 3, 4, 5, 6, 1, 0] rfl ?_
  refine gm_lp (S := Int32 × Int32 × gm_M) (fun _ => 0) (fun _ => 0) (fun s1 => s1.2.2) (fun s1 => [(0, .ref a0), (1, .int a1), (2, .int a2), (3, .ref a3), (4, .int a4), (5, .int s1.1), (6, .int s1.2.1)]) (fun _ => []) (fun s1 => ?_) 5000 ((0 : Int32), a1, μ)
  refine gm_iload d_X0_isSo_6 6 rfl ?_
  refine gm_iload_n d_X0_isSo_8 rfl 2 rfl ?_
  refine gm_icmp_ge (tgt := 120) d_X0_isSo_9 (by decide) (fun h9 => ?_) (fun h9 => ?_)
  ·
    refine gm_iload d_X0_isSo_120 5 rfl ?_
    refine gm_iconst (v := 1) d_X0_isSo_122 (by decide) ?_
    refine gm_iand d_X0_isSo_123 ?_
    refine gm_iconst (v := 1) d_X0_isSo_124 (by decide) ?_
    refine gm_icmp_ne (tgt := 132) d_X0_isSo_125 (by decide) (fun h125 => ?_) (fun h125 => ?_)
    ·
      refine gm_iconst (v := 0) d_X0_isSo_132 (by decide) ?_
      exact gm_zret rfl d_X0_isSo_133 (Nat.le_of_ble_eq_true rfl) (Nat.le_of_ble_eq_true rfl) (fun h => h)
    ·
      refine gm_iconst (v := 1) d_X0_isSo_128 (by decide) ?_
      refine gm_goto (tgt := 133) d_X0_isSo_129 (by decide) ?_
      exact gm_zret rfl d_X0_isSo_133 (Nat.le_of_ble_eq_true rfl) (Nat.le_of_ble_eq_true rfl) (fun h => h)
  ·
    refine gm_aload_n d_X0_isSo_12 rfl 0 rfl ?_
    refine gm_getR F_0_code gw_133 d_X0_isSo_13 (fun v2 _ => ?_)
    refine gm_iload d_X0_isSo_16 6 rfl ?_
    refine gm_iald d_X0_isSo_18 (fun v3 _ => ?_)
    refine gm_istore (L' := [(7, .int v3), (0, .ref a0), (1, .int a1), (2, .int a2), (3, .ref a3), (4, .int a4), (5, .int s1.1), (6, .int s1.2.1)]) d_X0_isSo_19 (Nat.le_of_ble_eq_true rfl) rfl ?_
    refine gm_iload d_X0_isSo_21 0 rfl ?_
    refine gm_iconst (v := -1) d_X0_isSo_23 (by decide) ?_
    refine gm_join (S := Int32 × gm_M) (pj := 114) (kj := 0) (nj := 0) (fun s4 => s4.2) (fun s4 => [(0, .ref a0), (1, .int a1), (2, .int a2), (3, .ref a3), (4, .int a4), (5, .int s4.1), (6, .int s1.2.1), (7, .int v3)]) (fun s4 => []) (fun s4 => ?_) (fun j5 hj5 => ?_)
    ·
      refine gm_iinc (v := s1.2.1 + (1 : Int32)) (L' := [(6, .int (s1.2.1 + (1 : Int32))), (0, .ref a0), (1, .int a1), (2, .int a2), (3, .ref a3), (4, .int a4), (5, .int s4.1), (7, .int v3)]) d_X0_isSo_114 6 rfl rfl (Nat.le_of_ble_eq_true rfl) rfl ?_
      refine gm_goto (tgt := 6) d_X0_isSo_117 (by decide) ?_
      refine gm_sub (L' := [(0, .ref a0), (1, .int a1), (2, .int a2), (3, .ref a3), (4, .int a4), (5, .int s4.1), (6, .int (s1.2.1 + (1 : Int32)))]) [1, 2, 3, 4, 5, 6, 0] rfl ?_
      exact gm_back (fun h => h)
    ·
      refine gm_icmp_ne (tgt := 36) d_X0_isSo_24 (by decide) (fun h24 => ?_) (fun h24 => ?_)
      ·
        refine gm_iload d_X0_isSo_36 0 rfl ?_
        refine gm_bipush (v := -2) d_X0_isSo_38 (by decide) ?_
        refine gm_icmp_ne (tgt := 70) d_X0_isSo_40 (by decide) (fun h40 => ?_) (fun h40 => ?_)
        ·
          refine gm_iload d_X0_isSo_70 0 rfl ?_
          refine gm_bipush (v := -3) d_X0_isSo_72 (by decide) ?_
          refine gm_icmp_ne (tgt := 91) d_X0_isSo_74 (by decide) (fun h74 => ?_) (fun h74 => ?_)
          ·
            refine gm_iload d_X0_isSo_91 6 rfl ?_
            refine gm_iconst (v := 1) d_X0_isSo_93 (by decide) ?_
            refine gm_ishl d_X0_isSo_94 ?_
            refine gm_iload d_X0_isSo_95 0 rfl ?_
            refine gm_aload_n d_X0_isSo_97 rfl 4 rfl ?_
            refine gm_iload d_X0_isSo_98 5 rfl ?_
            refine gm_callS [.int v3, .ref a3, .int a4] (c_X0_passes v3 a3 a4 s1.2.2) B_X0_passes gw_490 rfl rfl rfl d_X0_isSo_100 (gm_kI (fun x7 m6 => ?_))
            refine gm_join (S := Int32) (pj := 111) (kj := 0) (nj := 0) (fun s8 => m6) (fun s8 => [(0, .ref a0), (1, .int a1), (2, .int a2), (3, .ref a3), (4, .int a4), (5, .int s1.1), (6, .int s1.2.1), (7, .int v3)]) (fun s8 => [.int s8, .int (s1.1 <<< ((1 : Int32) &&& 31))]) (fun s8 => ?_) (fun j9 hj9 => ?_)
            ·
              refine gm_ior d_X0_isSo_111 ?_
              refine gm_istore (L' := [(5, .int ((s1.1 <<< ((1 : Int32) &&& 31)) ||| s8)), (0, .ref a0), (1, .int a1), (2, .int a2), (3, .ref a3), (4, .int a4), (6, .int s1.2.1), (7, .int v3)]) d_X0_isSo_112 (Nat.le_of_ble_eq_true rfl) rfl ?_
              refine gm_sub (L' := [(0, .ref a0), (1, .int a1), (2, .int a2), (3, .ref a3), (4, .int a4), (5, .int ((s1.1 <<< ((1 : Int32) &&& 31)) ||| s8)), (6, .int s1.2.1), (7, .int v3)]) [1, 2, 3, 4, 5, 0, 6, 7] rfl ?_
              exact hj5 (((s1.1 <<< ((1 : Int32) &&& 31)) ||| s8), m6)
            ·
              refine gm_if_eq (tgt := 110) d_X0_isSo_103 (by decide) (fun h103 => ?_) (fun h103 => ?_)
              ·
                refine gm_iconst (v := 0) d_X0_isSo_110 (by decide) ?_
                refine gm_sub (L' := [(0, .ref a0), (1, .int a1), (2, .int a2), (3, .ref a3), (4, .int a4), (5, .int s1.1), (6, .int s1.2.1), (7, .int v3)]) [1, 2, 3, 4, 5, 6, 7, 0] rfl ?_
                exact hj9 (0 : Int32)
              ·
                refine gm_iconst (v := 1) d_X0_isSo_106 (by decide) ?_
                refine gm_goto (tgt := 111) d_X0_isSo_107 (by decide) ?_
                refine gm_sub (L' := [(0, .ref a0), (1, .int a1), (2, .int a2), (3, .ref a3), (4, .int a4), (5, .int s1.1), (6, .int s1.2.1), (7, .int v3)]) [1, 2, 3, 4, 5, 6, 7, 0] rfl ?_
                exact hj9 (1 : Int32)
          ·
            refine gm_iload d_X0_isSo_77 6 rfl ?_
            refine gm_iconst (v := 1) d_X0_isSo_79 (by decide) ?_
            refine gm_ishr d_X0_isSo_80 ?_
            refine gm_iload d_X0_isSo_81 6 rfl ?_
            refine gm_iconst (v := 1) d_X0_isSo_83 (by decide) ?_
            refine gm_iand d_X0_isSo_84 ?_
            refine gm_ior d_X0_isSo_85 ?_
            refine gm_istore (L' := [(5, .int ((s1.1 >>> ((1 : Int32) &&& 31)) ||| (s1.1 &&& (1 : Int32)))), (7, .int v3), (0, .ref a0), (1, .int a1), (2, .int a2), (3, .ref a3), (4, .int a4), (6, .int s1.2.1)]) d_X0_isSo_86 (Nat.le_of_ble_eq_true rfl) rfl ?_
            refine gm_goto (tgt := 114) d_X0_isSo_88 (by decide) ?_
            refine gm_sub (L' := [(0, .ref a0), (1, .int a1), (2, .int a2), (3, .ref a3), (4, .int a4), (5, .int ((s1.1 >>> ((1 : Int32) &&& 31)) ||| (s1.1 &&& (1 : Int32)))), (6, .int s1.2.1), (7, .int v3)]) [2, 3, 4, 5, 6, 0, 7, 1] rfl ?_
            exact hj5 (((s1.1 >>> ((1 : Int32) &&& 31)) ||| (s1.1 &&& (1 : Int32))), s1.2.2)
        ·
          refine gm_iload d_X0_isSo_43 6 rfl ?_
          refine gm_iconst (v := 1) d_X0_isSo_45 (by decide) ?_
          refine gm_iand d_X0_isSo_46 ?_
          refine gm_iconst (v := 1) d_X0_isSo_47 (by decide) ?_
          refine gm_join (S := Int32) (pj := 65) (kj := 0) (nj := 0) (fun s10 => s1.2.2) (fun s10 => [(0, .ref a0), (1, .int a1), (2, .int a2), (3, .ref a3), (4, .int a4), (5, .int s1.1), (6, .int s1.2.1), (7, .int v3)]) (fun s10 => [.int s10]) (fun s10 => ?_) (fun j11 hj11 => ?_)
          ·
            refine gm_istore (L' := [(5, .int s10), (0, .ref a0), (1, .int a1), (2, .int a2), (3, .ref a3), (4, .int a4), (6, .int s1.2.1), (7, .int v3)]) d_X0_isSo_65 (Nat.le_of_ble_eq_true rfl) rfl ?_
            refine gm_goto (tgt := 114) d_X0_isSo_67 (by decide) ?_
            refine gm_sub (L' := [(0, .ref a0), (1, .int a1), (2, .int a2), (3, .ref a3), (4, .int a4), (5, .int s10), (6, .int s1.2.1), (7, .int v3)]) [1, 2, 3, 4, 5, 0, 6, 7] rfl ?_
            exact hj5 (s10, s1.2.2)
          ·
            refine gm_icmp_ne (tgt := 58) d_X0_isSo_48 (by decide) (fun h48 => ?_) (fun h48 => ?_)
            ·
              refine gm_iload d_X0_isSo_58 6 rfl ?_
              refine gm_iconst (v := 1) d_X0_isSo_60 (by decide) ?_
              refine gm_ishr d_X0_isSo_61 ?_
              refine gm_bipush (v := -2) d_X0_isSo_62 (by decide) ?_
              refine gm_iand d_X0_isSo_64 ?_
              refine gm_sub (L' := [(0, .ref a0), (1, .int a1), (2, .int a2), (3, .ref a3), (4, .int a4), (5, .int s1.1), (6, .int s1.2.1), (7, .int v3)]) [1, 2, 3, 4, 5, 6, 7, 0] rfl ?_
              exact hj11 ((s1.1 >>> ((1 : Int32) &&& 31)) &&& (-2 : Int32))
            ·
              refine gm_iload d_X0_isSo_51 6 rfl ?_
              refine gm_iconst (v := 1) d_X0_isSo_53 (by decide) ?_
              refine gm_ishr d_X0_isSo_54 ?_
              refine gm_goto (tgt := 65) d_X0_isSo_55 (by decide) ?_
              refine gm_sub (L' := [(0, .ref a0), (1, .int a1), (2, .int a2), (3, .ref a3), (4, .int a4), (5, .int s1.1), (6, .int s1.2.1), (7, .int v3)]) [1, 2, 3, 4, 5, 6, 7, 0] rfl ?_
              exact hj11 (s1.1 >>> ((1 : Int32) &&& 31))
      ·
        refine gm_iload d_X0_isSo_27 6 rfl ?_
        refine gm_iconst (v := 1) d_X0_isSo_29 (by decide) ?_
        refine gm_ixor d_X0_isSo_30 ?_
        refine gm_istore (L' := [(5, .int (s1.1 ^^^ (1 : Int32))), (7, .int v3), (0, .ref a0), (1, .int a1), (2, .int a2), (3, .ref a3), (4, .int a4), (6, .int s1.2.1)]) d_X0_isSo_31 (Nat.le_of_ble_eq_true rfl) rfl ?_
        refine gm_goto (tgt := 114) d_X0_isSo_33 (by decide) ?_
        refine gm_sub (L' := [(0, .ref a0), (1, .int a1), (2, .int a2), (3, .ref a3), (4, .int a4), (5, .int (s1.1 ^^^ (1 : Int32))), (6, .int s1.2.1), (7, .int v3)]) [2, 3, 4, 5, 6, 0, 7, 1] rfl ?_
        exact hj5 ((s1.1 ^^^ (1 : Int32)), s1.2.2)
theorem d_X0_next_0 : decode prog_2_method_12_code 0 = .ok (.aload_n 0, 1) := ge_aload_n_0 (by decide +kernel)
theorem d_X0_next_1 : decode prog_2_method_12_code 1 = .ok (.getfield 42, 3) := ge_getfield (by decide +kernel)
theorem d_X0_next_4 : decode prog_2_method_12_code 4 = .ok (.ifCond .lt 26, 3) := ge_ifCond_lt (by decide +kernel)
theorem d_X0_next_7 : decode prog_2_method_12_code 7 = .ok (.aload_n 0, 1) := ge_aload_n_0 (by decide +kernel)
theorem d_X0_next_8 : decode prog_2_method_12_code 8 = .ok (.getfield 42, 3) := ge_getfield (by decide +kernel)
theorem d_X0_next_11 : decode prog_2_method_12_code 11 = .ok (.aload_n 0, 1) := ge_aload_n_0 (by decide +kernel)
theorem d_X0_next_12 : decode prog_2_method_12_code 12 = .ok (.getfield 35, 3) := ge_getfield (by decide +kernel)
theorem d_X0_next_15 : decode prog_2_method_12_code 15 = .ok (.if_icmp .ge 15, 3) := ge_if_icmp_ge (by decide +kernel)
theorem d_X0_next_18 : decode prog_2_method_12_code 18 = .ok (.aload_n 0, 1) := ge_aload_n_0 (by decide +kernel)
theorem d_X0_next_19 : decode prog_2_method_12_code 19 = .ok (.getfield 26, 3) := ge_getfield (by decide +kernel)
theorem d_X0_next_22 : decode prog_2_method_12_code 22 = .ok (.aload_n 0, 1) := ge_aload_n_0 (by decide +kernel)
theorem d_X0_next_23 : decode prog_2_method_12_code 23 = .ok (.getfield 42, 3) := ge_getfield (by decide +kernel)
theorem d_X0_next_26 : decode prog_2_method_12_code 26 = .ok (.iaload, 1) := ge_iaload (by decide +kernel)
theorem d_X0_next_27 : decode prog_2_method_12_code 27 = .ok (.goto 4, 3) := ge_goto (by decide +kernel)
theorem d_X0_next_30 : decode prog_2_method_12_code 30 = .ok (.iconst (-1), 1) := ge_iconst_m1_ (by decide +kernel)
theorem d_X0_next_31 : decode prog_2_method_12_code 31 = .ok (.ireturn, 1) := ge_ireturn (by decide +kernel)
def f_X0_next (a0 : Nat) (μ : gm_M) : Option (Option Value × gm_M) := gm_gI μ [5] a0 9 (fun v1 => if v1 < 0 then some (some (.int (-1 : Int32)), μ) else gm_gI μ [5] a0 9 (fun v2 => gm_gI μ [5] a0 8 (fun v3 => if v3 ≤ v2 then some (some (.int (-1 : Int32)), μ) else gm_gR μ [5] a0 7 (fun v4 => gm_gI μ [5] a0 9 (fun v5 => gm_aI μ v4 v5 (fun v6 => some (some (.int v6), μ)))))))
set_option maxHeartbeats 4000000 in
theorem c_X0_next (a0 : Nat) (μ : gm_M) : gm_Call ({ cls := "GumBubble$Afternoon", name := "next", desc := "()I" } : Jvm.MethodName) prog_2_method_12_code 1 (some .int) 0 0 0 [.ref a0] μ (f_X0_next a0 μ) := by
  refine gm_start PN_0 (Nat.le_of_ble_eq_true rfl) (fun res μe => ?_)
  unfold f_X0_next
  show gm_A "GumBubble$Afternoon" (gm_nm "next") _ _ _ _ _ _ _ _ _ 0 [(0, .ref a0)] [] _ _
  refine gm_aload_n d_X0_next_0 rfl 0 rfl ?_
  refine gm_getI F_0_at gw_137 d_X0_next_1 (fun v1 _ => ?_)
  refine gm_if_lt (tgt := 30) d_X0_next_4 (by decide) (fun h4 => ?_) (fun h4 => ?_)
  ·
    refine gm_iconst (v := -1) d_X0_next_30 (by decide) ?_
    exact gm_iret rfl d_X0_next_31 (Nat.le_of_ble_eq_true rfl) (Nat.le_of_ble_eq_true rfl) (fun h => h)
  ·
    refine gm_aload_n d_X0_next_7 rfl 0 rfl ?_
    refine gm_getI F_0_at gw_137 d_X0_next_8 (fun v2 _ => ?_)
    refine gm_aload_n d_X0_next_11 rfl 0 rfl ?_
    refine gm_getI F_0_size gw_136 d_X0_next_12 (fun v3 _ => ?_)
    refine gm_icmp_ge (tgt := 30) d_X0_next_15 (by decide) (fun h15 => ?_) (fun h15 => ?_)
    ·
      refine gm_iconst (v := -1) d_X0_next_30 (by decide) ?_
      exact gm_iret rfl d_X0_next_31 (Nat.le_of_ble_eq_true rfl) (Nat.le_of_ble_eq_true rfl) (fun h => h)
    ·
      refine gm_aload_n d_X0_next_18 rfl 0 rfl ?_
      refine gm_getR F_0_tape gw_135 d_X0_next_19 (fun v4 _ => ?_)
      refine gm_aload_n d_X0_next_22 rfl 0 rfl ?_
      refine gm_getI F_0_at gw_137 d_X0_next_23 (fun v5 _ => ?_)
      refine gm_iald d_X0_next_26 (fun v6 _ => ?_)
      refine gm_goto (tgt := 31) d_X0_next_27 (by decide) ?_
      exact gm_iret rfl d_X0_next_31 (Nat.le_of_ble_eq_true rfl) (Nat.le_of_ble_eq_true rfl) (fun h => h)
theorem d_X0_put_0 : decode prog_2_method_13_code 0 = .ok (.aload_n 0, 1) := ge_aload_n_0 (by decide +kernel)
theorem d_X0_put_1 : decode prog_2_method_13_code 1 = .ok (.getfield 115, 3) := ge_getfield (by decide +kernel)
theorem d_X0_put_4 : decode prog_2_method_13_code 4 = .ok (.bipush 100, 2) := ge_bipush (by decide +kernel)
theorem d_X0_put_6 : decode prog_2_method_13_code 6 = .ok (.if_icmp .lt 4, 3) := ge_if_icmp_lt (by decide +kernel)
theorem d_X0_put_9 : decode prog_2_method_13_code 9 = .ok (.return_, 1) := ge_return_ (by decide +kernel)
theorem d_X0_put_10 : decode prog_2_method_13_code 10 = .ok (.aload_n 0, 1) := ge_aload_n_0 (by decide +kernel)
theorem d_X0_put_11 : decode prog_2_method_13_code 11 = .ok (.getfield 23, 3) := ge_getfield (by decide +kernel)
theorem d_X0_put_14 : decode prog_2_method_13_code 14 = .ok (.aload_n 0, 1) := ge_aload_n_0 (by decide +kernel)
theorem d_X0_put_15 : decode prog_2_method_13_code 15 = .ok (.getfield 115, 3) := ge_getfield (by decide +kernel)
theorem d_X0_put_18 : decode prog_2_method_13_code 18 = .ok (.iload_n 1, 1) := ge_iload_n_1 (by decide +kernel)
theorem d_X0_put_19 : decode prog_2_method_13_code 19 = .ok (.iastore, 1) := ge_iastore (by decide +kernel)
theorem d_X0_put_20 : decode prog_2_method_13_code 20 = .ok (.aload_n 0, 1) := ge_aload_n_0 (by decide +kernel)
theorem d_X0_put_21 : decode prog_2_method_13_code 21 = .ok (.dup, 1) := ge_dup (by decide +kernel)
theorem d_X0_put_22 : decode prog_2_method_13_code 22 = .ok (.getfield 115, 3) := ge_getfield (by decide +kernel)
theorem d_X0_put_25 : decode prog_2_method_13_code 25 = .ok (.iconst 1, 1) := ge_iconst_1 (by decide +kernel)
theorem d_X0_put_26 : decode prog_2_method_13_code 26 = .ok (.iadd, 1) := ge_iadd (by decide +kernel)
theorem d_X0_put_27 : decode prog_2_method_13_code 27 = .ok (.putfield 115, 3) := ge_putfield (by decide +kernel)
theorem d_X0_put_30 : decode prog_2_method_13_code 30 = .ok (.return_, 1) := ge_return_ (by decide +kernel)
def f_X0_put (a0 : Nat) (a1 : Int32) (μ : gm_M) : Option (Option Value × gm_M) := gm_gI μ [5] a0 6 (fun v1 => if v1 < (100 : Int32) then gm_gR μ [5] a0 5 (fun v2 => gm_gI μ [5] a0 6 (fun v3 => gm_sI μ v2 v3 a1 (fun m4 => gm_gI m4 [5] a0 6 (fun v5 => gm_pI m4 [5] a0 6 (v5 + (1 : Int32)) (fun m6 => some (none, m6)))))) else some (none, μ))
set_option maxHeartbeats 4000000 in
theorem c_X0_put (a0 : Nat) (a1 : Int32) (μ : gm_M) : gm_Call ({ cls := "GumBubble$Afternoon", name := "put", desc := "(I)V" } : Jvm.MethodName) prog_2_method_13_code 2 none 0 0 0 [.ref a0, .int a1] μ (f_X0_put a0 a1 μ) := by
  refine gm_start PN_0 (Nat.le_of_ble_eq_true rfl) (fun res μe => ?_)
  unfold f_X0_put
  show gm_A "GumBubble$Afternoon" (gm_nm "put") _ _ _ _ _ _ _ _ _ 0 [(0, .ref a0), (1, .int a1)] [] _ _
  refine gm_aload_n d_X0_put_0 rfl 0 rfl ?_
  refine gm_getI F_0_codeSize gw_134 d_X0_put_1 (fun v1 _ => ?_)
  refine gm_bipush (v := 100) d_X0_put_4 (by decide) ?_
  refine gm_icmp_lt (tgt := 10) d_X0_put_6 (by decide) (fun h6 => ?_) (fun h6 => ?_)
  ·
    refine gm_aload_n d_X0_put_10 rfl 0 rfl ?_
    refine gm_getR F_0_code gw_133 d_X0_put_11 (fun v2 _ => ?_)
    refine gm_aload_n d_X0_put_14 rfl 0 rfl ?_
    refine gm_getI F_0_codeSize gw_134 d_X0_put_15 (fun v3 _ => ?_)
    refine gm_iload_n d_X0_put_18 rfl 1 rfl ?_
    refine gm_iast d_X0_put_19 (fun m4 _ => ?_)
    refine gm_aload_n d_X0_put_20 rfl 0 rfl ?_
    refine gm_dup d_X0_put_21 rfl ?_
    refine gm_getI F_0_codeSize gw_134 d_X0_put_22 (fun v5 _ => ?_)
    refine gm_iconst (v := 1) d_X0_put_25 (by decide) ?_
    refine gm_iadd d_X0_put_26 ?_
    refine gm_putI F_0_codeSize (Or.inl rfl) gw_134 d_X0_put_27 (fun m6 _ => ?_)
    exact gm_vret rfl d_X0_put_30 (Nat.le_of_ble_eq_true rfl) (Nat.le_of_ble_eq_true rfl) (fun h => h)
  ·
    exact gm_vret rfl d_X0_put_9 (Nat.le_of_ble_eq_true rfl) (Nat.le_of_ble_eq_true rfl) (fun h => h)
theorem d_X0_readNumber_0 : decode prog_2_method_6_code 0 = .ok (.aload_n 0, 1) := ge_aload_n_0 (by decide +kernel)
theorem d_X0_readNumber_1 : decode prog_2_method_6_code 1 = .ok (.invokevirtual 59, 3) := ge_invokevirtual (by decide +kernel)
theorem d_X0_readNumber_4 : decode prog_2_method_6_code 4 = .ok (.istore_n 1, 1) := ge_istore_n_1 (by decide +kernel)
theorem d_X0_readNumber_5 : decode prog_2_method_6_code 5 = .ok (.iload_n 1, 1) := ge_iload_n_1 (by decide +kernel)
theorem d_X0_readNumber_6 : decode prog_2_method_6_code 6 = .ok (.bipush 48, 2) := ge_bipush (by decide +kernel)
theorem d_X0_readNumber_8 : decode prog_2_method_6_code 8 = .ok (.if_icmp .lt 9, 3) := ge_if_icmp_lt (by decide +kernel)
theorem d_X0_readNumber_11 : decode prog_2_method_6_code 11 = .ok (.iload_n 1, 1) := ge_iload_n_1 (by decide +kernel)
theorem d_X0_readNumber_12 : decode prog_2_method_6_code 12 = .ok (.bipush 57, 2) := ge_bipush (by decide +kernel)
theorem d_X0_readNumber_14 : decode prog_2_method_6_code 14 = .ok (.if_icmp .le 5, 3) := ge_if_icmp_le (by decide +kernel)
theorem d_X0_readNumber_17 : decode prog_2_method_6_code 17 = .ok (.iconst (-1), 1) := ge_iconst_m1_ (by decide +kernel)
theorem d_X0_readNumber_18 : decode prog_2_method_6_code 18 = .ok (.ireturn, 1) := ge_ireturn (by decide +kernel)
theorem d_X0_readNumber_19 : decode prog_2_method_6_code 19 = .ok (.aload_n 0, 1) := ge_aload_n_0 (by decide +kernel)
theorem d_X0_readNumber_20 : decode prog_2_method_6_code 20 = .ok (.dup, 1) := ge_dup (by decide +kernel)
theorem d_X0_readNumber_21 : decode prog_2_method_6_code 21 = .ok (.getfield 42, 3) := ge_getfield (by decide +kernel)
theorem d_X0_readNumber_24 : decode prog_2_method_6_code 24 = .ok (.iconst 1, 1) := ge_iconst_1 (by decide +kernel)
theorem d_X0_readNumber_25 : decode prog_2_method_6_code 25 = .ok (.iadd, 1) := ge_iadd (by decide +kernel)
theorem d_X0_readNumber_26 : decode prog_2_method_6_code 26 = .ok (.putfield 42, 3) := ge_putfield (by decide +kernel)
theorem d_X0_readNumber_29 : decode prog_2_method_6_code 29 = .ok (.aload_n 0, 1) := ge_aload_n_0 (by decide +kernel)
theorem d_X0_readNumber_30 : decode prog_2_method_6_code 30 = .ok (.invokevirtual 59, 3) := ge_invokevirtual (by decide +kernel)
theorem d_X0_readNumber_33 : decode prog_2_method_6_code 33 = .ok (.istore_n 2, 1) := ge_istore_n_2 (by decide +kernel)
theorem d_X0_readNumber_34 : decode prog_2_method_6_code 34 = .ok (.iload_n 1, 1) := ge_iload_n_1 (by decide +kernel)
theorem d_X0_readNumber_35 : decode prog_2_method_6_code 35 = .ok (.bipush 48, 2) := ge_bipush (by decide +kernel)
theorem d_X0_readNumber_37 : decode prog_2_method_6_code 37 = .ok (.if_icmp .eq 15, 3) := ge_if_icmp_eq (by decide +kernel)
theorem d_X0_readNumber_40 : decode prog_2_method_6_code 40 = .ok (.iload_n 2, 1) := ge_iload_n_2 (by decide +kernel)
theorem d_X0_readNumber_41 : decode prog_2_method_6_code 41 = .ok (.bipush 48, 2) := ge_bipush (by decide +kernel)
theorem d_X0_readNumber_43 : decode prog_2_method_6_code 43 = .ok (.if_icmp .lt 9, 3) := ge_if_icmp_lt (by decide +kernel)
theorem d_X0_readNumber_46 : decode prog_2_method_6_code 46 = .ok (.iload_n 2, 1) := ge_iload_n_2 (by decide +kernel)
theorem d_X0_readNumber_47 : decode prog_2_method_6_code 47 = .ok (.bipush 57, 2) := ge_bipush (by decide +kernel)
theorem d_X0_readNumber_49 : decode prog_2_method_6_code 49 = .ok (.if_icmp .le 8, 3) := ge_if_icmp_le (by decide +kernel)
theorem d_X0_readNumber_52 : decode prog_2_method_6_code 52 = .ok (.iload_n 1, 1) := ge_iload_n_1 (by decide +kernel)
theorem d_X0_readNumber_53 : decode prog_2_method_6_code 53 = .ok (.bipush 48, 2) := ge_bipush (by decide +kernel)
theorem d_X0_readNumber_55 : decode prog_2_method_6_code 55 = .ok (.isub, 1) := ge_isub (by decide +kernel)
theorem d_X0_readNumber_56 : decode prog_2_method_6_code 56 = .ok (.ireturn, 1) := ge_ireturn (by decide +kernel)
theorem d_X0_readNumber_57 : decode prog_2_method_6_code 57 = .ok (.aload_n 0, 1) := ge_aload_n_0 (by decide +kernel)
theorem d_X0_readNumber_58 : decode prog_2_method_6_code 58 = .ok (.dup, 1) := ge_dup (by decide +kernel)
theorem d_X0_readNumber_59 : decode prog_2_method_6_code 59 = .ok (.getfield 42, 3) := ge_getfield (by decide +kernel)
theorem d_X0_readNumber_62 : decode prog_2_method_6_code 62 = .ok (.iconst 1, 1) := ge_iconst_1 (by decide +kernel)
theorem d_X0_readNumber_63 : decode prog_2_method_6_code 63 = .ok (.iadd, 1) := ge_iadd (by decide +kernel)
theorem d_X0_readNumber_64 : decode prog_2_method_6_code 64 = .ok (.putfield 42, 3) := ge_putfield (by decide +kernel)
theorem d_X0_readNumber_67 : decode prog_2_method_6_code 67 = .ok (.bipush 10, 2) := ge_bipush (by decide +kernel)
theorem d_X0_readNumber_69 : decode prog_2_method_6_code 69 = .ok (.iload_n 1, 1) := ge_iload_n_1 (by decide +kernel)
theorem d_X0_readNumber_70 : decode prog_2_method_6_code 70 = .ok (.bipush 48, 2) := ge_bipush (by decide +kernel)
theorem d_X0_readNumber_72 : decode prog_2_method_6_code 72 = .ok (.isub, 1) := ge_isub (by decide +kernel)
theorem d_X0_readNumber_73 : decode prog_2_method_6_code 73 = .ok (.imul, 1) := ge_imul (by decide +kernel)
theorem d_X0_readNumber_74 : decode prog_2_method_6_code 74 = .ok (.iload_n 2, 1) := ge_iload_n_2 (by decide +kernel)
theorem d_X0_readNumber_75 : decode prog_2_method_6_code 75 = .ok (.iadd, 1) := ge_iadd (by decide +kernel)
theorem d_X0_readNumber_76 : decode prog_2_method_6_code 76 = .ok (.bipush 48, 2) := ge_bipush (by decide +kernel)
theorem d_X0_readNumber_78 : decode prog_2_method_6_code 78 = .ok (.isub, 1) := ge_isub (by decide +kernel)
theorem d_X0_readNumber_79 : decode prog_2_method_6_code 79 = .ok (.ireturn, 1) := ge_ireturn (by decide +kernel)
def f_X0_readNumber (a0 : Nat) (μ : gm_M) : Option (Option Value × gm_M) := if gm_tag μ a0 = 5 then gm_bI (f_X0_next a0 μ) (fun x2 m1 => if x2 < (48 : Int32) then some (some (.int (-1 : Int32)), m1) else if x2 ≤ (57 : Int32) then gm_gI m1 [5] a0 9 (fun v3 => gm_pI m1 [5] a0 9 (v3 + (1 : Int32)) (fun m4 => if gm_tag m4 a0 = 5 then gm_bI (f_X0_next a0 m4) (fun x6 m5 => gm_j (fun (s7 : Unit) => some (some (.int (x2 - (48 : Int32))), m5)) (fun j8 => if x2 = (48 : Int32) then j8 () else if x6 < (48 : Int32) then j8 () else if x6 ≤ (57 : Int32) then gm_gI m5 [5] a0 9 (fun v9 => gm_pI m5 [5] a0 9 (v9 + (1 : Int32)) (fun m10 => some (some (.int ((((10 : Int32) * (x2 - (48 : Int32))) + x6) - (48 : Int32))), m10))) else j8 ())) else none)) else some (some (.int (-1 : Int32)), m1)) else none
set_option maxHeartbeats 4000000 in
theorem c_X0_readNumber (a0 : Nat) (μ : gm_M) : gm_Call ({ cls := "GumBubble$Afternoon", name := "readNumber", desc := "()I" } : Jvm.MethodName) prog_2_method_6_code 3 (some .int) 1 0 0 [.ref a0] μ (f_X0_readNumber a0 μ) := by
  refine gm_start PN_0 (Nat.le_of_ble_eq_true rfl) (fun res μe => ?_)
  unfold f_X0_readNumber
  show gm_A "GumBubble$Afternoon" (gm_nm "readNumber") _ _ _ _ _ _ _ _ _ 0 [(0, .ref a0)] [] _ _
  refine gm_aload_n d_X0_readNumber_0 rfl 0 rfl ?_
  refine gm_grd (fun g1 => ?_)
  refine gm_callV (k0 := 0) [] (c_X0_next a0 μ) g1 rfl B_X0_next gw_316 gs_1 rfl rfl rfl d_X0_readNumber_1 (gm_kI (fun x2 m1 => ?_))
  refine gm_istore_n (L' := [(1, .int x2), (0, .ref a0)]) d_X0_readNumber_4 rfl (Nat.le_of_ble_eq_true rfl) rfl ?_
  refine gm_iload_n d_X0_readNumber_5 rfl 0 rfl ?_
  refine gm_bipush (v := 48) d_X0_readNumber_6 (by decide) ?_
  refine gm_icmp_lt (tgt := 17) d_X0_readNumber_8 (by decide) (fun h8 => ?_) (fun h8 => ?_)
  ·
    refine gm_iconst (v := -1) d_X0_readNumber_17 (by decide) ?_
    exact gm_iret rfl d_X0_readNumber_18 (Nat.le_of_ble_eq_true rfl) (Nat.le_of_ble_eq_true rfl) (fun h => h)
  ·
    refine gm_iload_n d_X0_readNumber_11 rfl 0 rfl ?_
    refine gm_bipush (v := 57) d_X0_readNumber_12 (by decide) ?_
    refine gm_icmp_le (tgt := 19) d_X0_readNumber_14 (by decide) (fun h14 => ?_) (fun h14 => ?_)
    ·
      refine gm_aload_n d_X0_readNumber_19 rfl 1 rfl ?_
      refine gm_dup d_X0_readNumber_20 rfl ?_
      refine gm_getI F_0_at gw_137 d_X0_readNumber_21 (fun v3 _ => ?_)
      refine gm_iconst (v := 1) d_X0_readNumber_24 (by decide) ?_
      refine gm_iadd d_X0_readNumber_25 ?_
      refine gm_putI F_0_at (Or.inl rfl) gw_137 d_X0_readNumber_26 (fun m4 _ => ?_)
      refine gm_aload_n d_X0_readNumber_29 rfl 1 rfl ?_
      refine gm_grd (fun g30 => ?_)
      refine gm_callV (k0 := 0) [] (c_X0_next a0 m4) g30 rfl B_X0_next gw_316 gs_1 rfl rfl rfl d_X0_readNumber_30 (gm_kI (fun x6 m5 => ?_))
      refine gm_istore_n (L' := [(2, .int x6), (1, .int x2), (0, .ref a0)]) d_X0_readNumber_33 rfl (Nat.le_of_ble_eq_true rfl) rfl ?_
      refine gm_iload_n d_X0_readNumber_34 rfl 1 rfl ?_
      refine gm_bipush (v := 48) d_X0_readNumber_35 (by decide) ?_
      refine gm_join (S := Unit) (pj := 52) (kj := 0) (nj := 0) (fun s7 => m5) (fun s7 => [(0, .ref a0), (1, .int x2), (2, .int x6)]) (fun s7 => []) (fun s7 => ?_) (fun j8 hj8 => ?_)
      ·
        refine gm_iload_n d_X0_readNumber_52 rfl 1 rfl ?_
        refine gm_bipush (v := 48) d_X0_readNumber_53 (by decide) ?_
        refine gm_isub d_X0_readNumber_55 ?_
        exact gm_iret rfl d_X0_readNumber_56 (Nat.le_of_ble_eq_true rfl) (Nat.le_of_ble_eq_true rfl) (fun h => h)
      ·
        refine gm_icmp_eq (tgt := 52) d_X0_readNumber_37 (by decide) (fun h37 => ?_) (fun h37 => ?_)
        ·
          refine gm_sub (L' := [(0, .ref a0), (1, .int x2), (2, .int x6)]) [2, 1, 0] rfl ?_
          exact hj8 ()
        ·
          refine gm_iload_n d_X0_readNumber_40 rfl 0 rfl ?_
          refine gm_bipush (v := 48) d_X0_readNumber_41 (by decide) ?_
          refine gm_icmp_lt (tgt := 52) d_X0_readNumber_43 (by decide) (fun h43 => ?_) (fun h43 => ?_)
          ·
            refine gm_sub (L' := [(0, .ref a0), (1, .int x2), (2, .int x6)]) [2, 1, 0] rfl ?_
            exact hj8 ()
          ·
            refine gm_iload_n d_X0_readNumber_46 rfl 0 rfl ?_
            refine gm_bipush (v := 57) d_X0_readNumber_47 (by decide) ?_
            refine gm_icmp_le (tgt := 57) d_X0_readNumber_49 (by decide) (fun h49 => ?_) (fun h49 => ?_)
            ·
              refine gm_aload_n d_X0_readNumber_57 rfl 2 rfl ?_
              refine gm_dup d_X0_readNumber_58 rfl ?_
              refine gm_getI F_0_at gw_137 d_X0_readNumber_59 (fun v9 _ => ?_)
              refine gm_iconst (v := 1) d_X0_readNumber_62 (by decide) ?_
              refine gm_iadd d_X0_readNumber_63 ?_
              refine gm_putI F_0_at (Or.inl rfl) gw_137 d_X0_readNumber_64 (fun m10 _ => ?_)
              refine gm_bipush (v := 10) d_X0_readNumber_67 (by decide) ?_
              refine gm_iload_n d_X0_readNumber_69 rfl 1 rfl ?_
              refine gm_bipush (v := 48) d_X0_readNumber_70 (by decide) ?_
              refine gm_isub d_X0_readNumber_72 ?_
              refine gm_imul d_X0_readNumber_73 ?_
              refine gm_iload_n d_X0_readNumber_74 rfl 0 rfl ?_
              refine gm_iadd d_X0_readNumber_75 ?_
              refine gm_bipush (v := 48) d_X0_readNumber_76 (by decide) ?_
              refine gm_isub d_X0_readNumber_78 ?_
              exact gm_iret rfl d_X0_readNumber_79 (Nat.le_of_ble_eq_true rfl) (Nat.le_of_ble_eq_true rfl) (fun h => h)
            ·
              refine gm_sub (L' := [(0, .ref a0), (1, .int x2), (2, .int x6)]) [2, 1, 0] rfl ?_
              exact hj8 ()
    ·
      refine gm_iconst (v := -1) d_X0_readNumber_17 (by decide) ?_
      exact gm_iret rfl d_X0_readNumber_18 (Nat.le_of_ble_eq_true rfl) (Nat.le_of_ble_eq_true rfl) (fun h => h)
theorem d_X0_readOneOf_0 : decode prog_2_method_10_code 0 = .ok (.aload_n 0, 1) := ge_aload_n_0 (by decide +kernel)
theorem d_X0_readOneOf_1 : decode prog_2_method_10_code 1 = .ok (.getfield 42, 3) := ge_getfield (by decide +kernel)
theorem d_X0_readOneOf_4 : decode prog_2_method_10_code 4 = .ok (.aload_n 0, 1) := ge_aload_n_0 (by decide +kernel)
theorem d_X0_readOneOf_5 : decode prog_2_method_10_code 5 = .ok (.getfield 35, 3) := ge_getfield (by decide +kernel)
theorem d_X0_readOneOf_8 : decode prog_2_method_10_code 8 = .ok (.if_icmp .lt 5, 3) := ge_if_icmp_lt (by decide +kernel)
theorem d_X0_readOneOf_11 : decode prog_2_method_10_code 11 = .ok (.iconst (-1), 1) := ge_iconst_m1_ (by decide +kernel)
theorem d_X0_readOneOf_12 : decode prog_2_method_10_code 12 = .ok (.ireturn, 1) := ge_ireturn (by decide +kernel)
theorem d_X0_readOneOf_13 : decode prog_2_method_10_code 13 = .ok (.aload_n 1, 1) := ge_aload_n_1 (by decide +kernel)
theorem d_X0_readOneOf_14 : decode prog_2_method_10_code 14 = .ok (.aload_n 0, 1) := ge_aload_n_0 (by decide +kernel)
theorem d_X0_readOneOf_15 : decode prog_2_method_10_code 15 = .ok (.getfield 26, 3) := ge_getfield (by decide +kernel)
theorem d_X0_readOneOf_18 : decode prog_2_method_10_code 18 = .ok (.aload_n 0, 1) := ge_aload_n_0 (by decide +kernel)
theorem d_X0_readOneOf_19 : decode prog_2_method_10_code 19 = .ok (.getfield 42, 3) := ge_getfield (by decide +kernel)
theorem d_X0_readOneOf_22 : decode prog_2_method_10_code 22 = .ok (.iaload, 1) := ge_iaload (by decide +kernel)
theorem d_X0_readOneOf_23 : decode prog_2_method_10_code 23 = .ok (.i2c, 1) := ge_i2c (by decide +kernel)
theorem d_X0_readOneOf_24 : decode prog_2_method_10_code 24 = .ok (.invokevirtual 111, 3) := ge_invokevirtual (by decide +kernel)
theorem d_X0_readOneOf_27 : decode prog_2_method_10_code 27 = .ok (.istore_n 2, 1) := ge_istore_n_2 (by decide +kernel)
theorem d_X0_readOneOf_28 : decode prog_2_method_10_code 28 = .ok (.iload_n 2, 1) := ge_iload_n_2 (by decide +kernel)
theorem d_X0_readOneOf_29 : decode prog_2_method_10_code 29 = .ok (.ifCond .lt 13, 3) := ge_ifCond_lt (by decide +kernel)
theorem d_X0_readOneOf_32 : decode prog_2_method_10_code 32 = .ok (.aload_n 0, 1) := ge_aload_n_0 (by decide +kernel)
theorem d_X0_readOneOf_33 : decode prog_2_method_10_code 33 = .ok (.dup, 1) := ge_dup (by decide +kernel)
theorem d_X0_readOneOf_34 : decode prog_2_method_10_code 34 = .ok (.getfield 42, 3) := ge_getfield (by decide +kernel)
theorem d_X0_readOneOf_37 : decode prog_2_method_10_code 37 = .ok (.iconst 1, 1) := ge_iconst_1 (by decide +kernel)
theorem d_X0_readOneOf_38 : decode prog_2_method_10_code 38 = .ok (.iadd, 1) := ge_iadd (by decide +kernel)
theorem d_X0_readOneOf_39 : decode prog_2_method_10_code 39 = .ok (.putfield 42, 3) := ge_putfield (by decide +kernel)
theorem d_X0_readOneOf_42 : decode prog_2_method_10_code 42 = .ok (.iload_n 2, 1) := ge_iload_n_2 (by decide +kernel)
theorem d_X0_readOneOf_43 : decode prog_2_method_10_code 43 = .ok (.ireturn, 1) := ge_ireturn (by decide +kernel)
def f_X0_readOneOf (a0 : Nat) (a1 : UInt32) (μ : gm_M) : Option (Option Value × gm_M) := gm_gI μ [5] a0 9 (fun v1 => gm_gI μ [5] a0 8 (fun v2 => if v1 < v2 then gm_gR μ [5] a0 7 (fun v3 => gm_gI μ [5] a0 9 (fun v4 => gm_aI μ v3 v4 (fun v5 => if gm_isS a1 then gm_bI (f_J0_indexOf_0f7a4 a1 (UInt32.toInt32 (Int32.toUInt32 v5 % 65536)) μ) (fun x7 m6 => if x7 < 0 then some (some (.int x7), m6) else gm_gI m6 [5] a0 9 (fun v8 => gm_pI m6 [5] a0 9 (v8 + (1 : Int32)) (fun m9 => some (some (.int x7), m9)))) else none))) else some (some (.int (-1 : Int32)), μ)))
set_option maxHeartbeats 4000000 in
theorem c_X0_readOneOf (a0 : Nat) (a1 : UInt32) (μ : gm_M) : gm_Call ({ cls := "GumBubble$Afternoon", name := "readOneOf", desc := "(Ljava/lang/String;)I" } : Jvm.MethodName) prog_2_method_10_code 3 (some .int) 4 0 0 [.ref a0, .float a1] μ (f_X0_readOneOf a0 a1 μ) := by
  refine gm_start PN_0 (Nat.le_of_ble_eq_true rfl) (fun res μe => ?_)
  unfold f_X0_readOneOf
  show gm_A "GumBubble$Afternoon" (gm_nm "readOneOf") _ _ _ _ _ _ _ _ _ 0 [(0, .ref a0), (1, .float a1)] [] _ _
  refine gm_aload_n d_X0_readOneOf_0 rfl 0 rfl ?_
  refine gm_getI F_0_at gw_137 d_X0_readOneOf_1 (fun v1 _ => ?_)
  refine gm_aload_n d_X0_readOneOf_4 rfl 0 rfl ?_
  refine gm_getI F_0_size gw_136 d_X0_readOneOf_5 (fun v2 _ => ?_)
  refine gm_icmp_lt (tgt := 13) d_X0_readOneOf_8 (by decide) (fun h8 => ?_) (fun h8 => ?_)
  ·
    refine gm_aloadF d_X0_readOneOf_13 rfl 1 rfl ?_
    refine gm_aload_n d_X0_readOneOf_14 rfl 0 rfl ?_
    refine gm_getR F_0_tape gw_135 d_X0_readOneOf_15 (fun v3 _ => ?_)
    refine gm_aload_n d_X0_readOneOf_18 rfl 0 rfl ?_
    refine gm_getI F_0_at gw_137 d_X0_readOneOf_19 (fun v4 _ => ?_)
    refine gm_iald d_X0_readOneOf_22 (fun v5 _ => ?_)
    refine gm_i2c d_X0_readOneOf_23 ?_
    refine gm_grd (fun g24 => ?_)
    refine gm_callT [.int (UInt32.toInt32 (Int32.toUInt32 v5 % 65536))] (c_J0_indexOf_0f7a4 a1 (UInt32.toInt32 (Int32.toUInt32 v5 % 65536)) μ) g24 B_J0_indexOf_0f7a4 gw_401 gw_403 rfl rfl rfl d_X0_readOneOf_24 (gm_kI (fun x7 m6 => ?_))
    refine gm_istore_n (L' := [(2, .int x7), (0, .ref a0), (1, .float a1)]) d_X0_readOneOf_27 rfl (Nat.le_of_ble_eq_true rfl) rfl ?_
    refine gm_iload_n d_X0_readOneOf_28 rfl 0 rfl ?_
    refine gm_if_lt (tgt := 42) d_X0_readOneOf_29 (by decide) (fun h29 => ?_) (fun h29 => ?_)
    ·
      refine gm_iload_n d_X0_readOneOf_42 rfl 0 rfl ?_
      exact gm_iret rfl d_X0_readOneOf_43 (Nat.le_of_ble_eq_true rfl) (Nat.le_of_ble_eq_true rfl) (fun h => h)
    ·
      refine gm_aload_n d_X0_readOneOf_32 rfl 1 rfl ?_
      refine gm_dup d_X0_readOneOf_33 rfl ?_
      refine gm_getI F_0_at gw_137 d_X0_readOneOf_34 (fun v8 _ => ?_)
      refine gm_iconst (v := 1) d_X0_readOneOf_37 (by decide) ?_
      refine gm_iadd d_X0_readOneOf_38 ?_
      refine gm_putI F_0_at (Or.inl rfl) gw_137 d_X0_readOneOf_39 (fun m9 _ => ?_)
      refine gm_iload_n d_X0_readOneOf_42 rfl 0 rfl ?_
      exact gm_iret rfl d_X0_readOneOf_43 (Nat.le_of_ble_eq_true rfl) (Nat.le_of_ble_eq_true rfl) (fun h => h)
  ·
    refine gm_iconst (v := -1) d_X0_readOneOf_11 (by decide) ?_
    exact gm_iret rfl d_X0_readOneOf_12 (Nat.le_of_ble_eq_true rfl) (Nat.le_of_ble_eq_true rfl) (fun h => h)
theorem d_X0_readTest_0 : decode prog_2_method_9_code 0 = .ok (.aload_n 0, 1) := ge_aload_n_0 (by decide +kernel)
theorem d_X0_readTest_1 : decode prog_2_method_9_code 1 = .ok (.ldc 104, 2) := ge_ldc (by decide +kernel)
theorem d_X0_readTest_3 : decode prog_2_method_9_code 3 = .ok (.invokevirtual 106, 3) := ge_invokevirtual (by decide +kernel)
theorem d_X0_readTest_6 : decode prog_2_method_9_code 6 = .ok (.istore_n 1, 1) := ge_istore_n_1 (by decide +kernel)
theorem d_X0_readTest_7 : decode prog_2_method_9_code 7 = .ok (.iload_n 1, 1) := ge_iload_n_1 (by decide +kernel)
theorem d_X0_readTest_8 : decode prog_2_method_9_code 8 = .ok (.ifCond .ge 5, 3) := ge_ifCond_ge (by decide +kernel)
theorem d_X0_readTest_11 : decode prog_2_method_9_code 11 = .ok (.iconst 0, 1) := ge_iconst_0 (by decide +kernel)
theorem d_X0_readTest_12 : decode prog_2_method_9_code 12 = .ok (.ireturn, 1) := ge_ireturn (by decide +kernel)
theorem d_X0_readTest_13 : decode prog_2_method_9_code 13 = .ok (.aload_n 0, 1) := ge_aload_n_0 (by decide +kernel)
theorem d_X0_readTest_14 : decode prog_2_method_9_code 14 = .ok (.ldc 109, 2) := ge_ldc (by decide +kernel)
theorem d_X0_readTest_16 : decode prog_2_method_9_code 16 = .ok (.invokevirtual 106, 3) := ge_invokevirtual (by decide +kernel)
theorem d_X0_readTest_19 : decode prog_2_method_9_code 19 = .ok (.istore_n 2, 1) := ge_istore_n_2 (by decide +kernel)
theorem d_X0_readTest_20 : decode prog_2_method_9_code 20 = .ok (.iload_n 2, 1) := ge_iload_n_2 (by decide +kernel)
theorem d_X0_readTest_21 : decode prog_2_method_9_code 21 = .ok (.ifCond .ge 5, 3) := ge_ifCond_ge (by decide +kernel)
theorem d_X0_readTest_24 : decode prog_2_method_9_code 24 = .ok (.iconst 0, 1) := ge_iconst_0 (by decide +kernel)
theorem d_X0_readTest_25 : decode prog_2_method_9_code 25 = .ok (.ireturn, 1) := ge_ireturn (by decide +kernel)
theorem d_X0_readTest_26 : decode prog_2_method_9_code 26 = .ok (.aload_n 0, 1) := ge_aload_n_0 (by decide +kernel)
theorem d_X0_readTest_27 : decode prog_2_method_9_code 27 = .ok (.invokevirtual 92, 3) := ge_invokevirtual (by decide +kernel)
theorem d_X0_readTest_30 : decode prog_2_method_9_code 30 = .ok (.istore_n 3, 1) := ge_istore_n_3 (by decide +kernel)
theorem d_X0_readTest_31 : decode prog_2_method_9_code 31 = .ok (.iload_n 3, 1) := ge_iload_n_3 (by decide +kernel)
theorem d_X0_readTest_32 : decode prog_2_method_9_code 32 = .ok (.ifCond .ge 5, 3) := ge_ifCond_ge (by decide +kernel)
theorem d_X0_readTest_35 : decode prog_2_method_9_code 35 = .ok (.iconst 0, 1) := ge_iconst_0 (by decide +kernel)
theorem d_X0_readTest_36 : decode prog_2_method_9_code 36 = .ok (.ireturn, 1) := ge_ireturn (by decide +kernel)
theorem d_X0_readTest_37 : decode prog_2_method_9_code 37 = .ok (.aload_n 0, 1) := ge_aload_n_0 (by decide +kernel)
theorem d_X0_readTest_38 : decode prog_2_method_9_code 38 = .ok (.sipush 1000, 3) := ge_sipush (by decide +kernel)
theorem d_X0_readTest_41 : decode prog_2_method_9_code 41 = .ok (.iload_n 1, 1) := ge_iload_n_1 (by decide +kernel)
theorem d_X0_readTest_42 : decode prog_2_method_9_code 42 = .ok (.imul, 1) := ge_imul (by decide +kernel)
theorem d_X0_readTest_43 : decode prog_2_method_9_code 43 = .ok (.bipush 100, 2) := ge_bipush (by decide +kernel)
theorem d_X0_readTest_45 : decode prog_2_method_9_code 45 = .ok (.iload_n 2, 1) := ge_iload_n_2 (by decide +kernel)
theorem d_X0_readTest_46 : decode prog_2_method_9_code 46 = .ok (.imul, 1) := ge_imul (by decide +kernel)
theorem d_X0_readTest_47 : decode prog_2_method_9_code 47 = .ok (.iadd, 1) := ge_iadd (by decide +kernel)
theorem d_X0_readTest_48 : decode prog_2_method_9_code 48 = .ok (.iload_n 3, 1) := ge_iload_n_3 (by decide +kernel)
theorem d_X0_readTest_49 : decode prog_2_method_9_code 49 = .ok (.iadd, 1) := ge_iadd (by decide +kernel)
theorem d_X0_readTest_50 : decode prog_2_method_9_code 50 = .ok (.invokevirtual 98, 3) := ge_invokevirtual (by decide +kernel)
theorem d_X0_readTest_53 : decode prog_2_method_9_code 53 = .ok (.iconst 1, 1) := ge_iconst_1 (by decide +kernel)
theorem d_X0_readTest_54 : decode prog_2_method_9_code 54 = .ok (.ireturn, 1) := ge_ireturn (by decide +kernel)
def f_X0_readTest (a0 : Nat) (μ : gm_M) : Option (Option Value × gm_M) := if gm_tag μ a0 = 5 then gm_bI (f_X0_readOneOf a0 (5 : UInt32) μ) (fun x2 m1 => if 0 ≤ x2 then if gm_tag m1 a0 = 5 then gm_bI (f_X0_readOneOf a0 (6 : UInt32) m1) (fun x4 m3 => if 0 ≤ x4 then if gm_tag m3 a0 = 5 then gm_bI (f_X0_readNumber a0 m3) (fun x6 m5 => if 0 ≤ x6 then if gm_tag m5 a0 = 5 then gm_bV (f_X0_put a0 ((((1000 : Int32) * x2) + ((100 : Int32) * x4)) + x6) m5) (fun m7 => if (1 : Int32) = 0 ∨ (1 : Int32) = 1 then some (some (.int (1 : Int32)), m7) else none) else none else if (0 : Int32) = 0 ∨ (0 : Int32) = 1 then some (some (.int (0 : Int32)), m5) else none) else none else if (0 : Int32) = 0 ∨ (0 : Int32) = 1 then some (some (.int (0 : Int32)), m3) else none) else none else if (0 : Int32) = 0 ∨ (0 : Int32) = 1 then some (some (.int (0 : Int32)), m1) else none) else none
set_option maxHeartbeats 4000000 in
theorem c_X0_readTest (a0 : Nat) (μ : gm_M) : gm_Call ({ cls := "GumBubble$Afternoon", name := "readTest", desc := "()Z" } : Jvm.MethodName) prog_2_method_9_code 4 (some .boolean) 5 0 0 [.ref a0] μ (f_X0_readTest a0 μ) := by
  refine gm_start PN_0 (Nat.le_of_ble_eq_true rfl) (fun res μe => ?_)
  unfold f_X0_readTest
  show gm_A "GumBubble$Afternoon" (gm_nm "readTest") _ _ _ _ _ _ _ _ _ 0 [(0, .ref a0)] [] _ _
  refine gm_aload_n d_X0_readTest_0 rfl 0 rfl ?_
  refine gm_ldcS (t := 4) (u := 5) (tx := "ckvpsm") (by decide +kernel) rfl d_X0_readTest_1 ?_
  refine gm_grd (fun g3 => ?_)
  refine gm_callV (k0 := 0) [.float (5 : UInt32)] (c_X0_readOneOf a0 (5 : UInt32) μ) g3 rfl B_X0_readOneOf gw_397 gs_8 rfl rfl rfl d_X0_readTest_3 (gm_kI (fun x2 m1 => ?_))
  refine gm_istore_n (L' := [(1, .int x2), (0, .ref a0)]) d_X0_readTest_6 rfl (Nat.le_of_ble_eq_true rfl) rfl ?_
  refine gm_iload_n d_X0_readTest_7 rfl 0 rfl ?_
  refine gm_if_ge (tgt := 13) d_X0_readTest_8 (by decide) (fun h8 => ?_) (fun h8 => ?_)
  ·
    refine gm_aload_n d_X0_readTest_13 rfl 1 rfl ?_
    refine gm_ldcS (t := 5) (u := 6) (tx := "<=>") (by decide +kernel) rfl d_X0_readTest_14 ?_
    refine gm_grd (fun g16 => ?_)
    refine gm_callV (k0 := 0) [.float (6 : UInt32)] (c_X0_readOneOf a0 (6 : UInt32) m1) g16 rfl B_X0_readOneOf gw_397 gs_8 rfl rfl rfl d_X0_readTest_16 (gm_kI (fun x4 m3 => ?_))
    refine gm_istore_n (L' := [(2, .int x4), (1, .int x2), (0, .ref a0)]) d_X0_readTest_19 rfl (Nat.le_of_ble_eq_true rfl) rfl ?_
    refine gm_iload_n d_X0_readTest_20 rfl 0 rfl ?_
    refine gm_if_ge (tgt := 26) d_X0_readTest_21 (by decide) (fun h21 => ?_) (fun h21 => ?_)
    ·
      refine gm_aload_n d_X0_readTest_26 rfl 2 rfl ?_
      refine gm_grd (fun g27 => ?_)
      refine gm_callV (k0 := 0) [] (c_X0_readNumber a0 m3) g27 rfl B_X0_readNumber gw_377 gs_4 rfl rfl rfl d_X0_readTest_27 (gm_kI (fun x6 m5 => ?_))
      refine gm_istore_n (L' := [(3, .int x6), (2, .int x4), (1, .int x2), (0, .ref a0)]) d_X0_readTest_30 rfl (Nat.le_of_ble_eq_true rfl) rfl ?_
      refine gm_iload_n d_X0_readTest_31 rfl 0 rfl ?_
      refine gm_if_ge (tgt := 37) d_X0_readTest_32 (by decide) (fun h32 => ?_) (fun h32 => ?_)
      ·
        refine gm_aload_n d_X0_readTest_37 rfl 3 rfl ?_
        refine gm_sipush (v := 1000) d_X0_readTest_38 (by decide) ?_
        refine gm_iload_n d_X0_readTest_41 rfl 2 rfl ?_
        refine gm_imul d_X0_readTest_42 ?_
        refine gm_bipush (v := 100) d_X0_readTest_43 (by decide) ?_
        refine gm_iload_n d_X0_readTest_45 rfl 1 rfl ?_
        refine gm_imul d_X0_readTest_46 ?_
        refine gm_iadd d_X0_readTest_47 ?_
        refine gm_iload_n d_X0_readTest_48 rfl 0 rfl ?_
        refine gm_iadd d_X0_readTest_49 ?_
        refine gm_grd (fun g50 => ?_)
        refine gm_callV (k0 := 0) [.int ((((1000 : Int32) * x2) + ((100 : Int32) * x4)) + x6)] (c_X0_put a0 ((((1000 : Int32) * x2) + ((100 : Int32) * x4)) + x6) m5) g50 rfl B_X0_put gw_457 gs_9 rfl rfl rfl d_X0_readTest_50 (gm_kV (fun m7 => ?_))
        refine gm_iconst (v := 1) d_X0_readTest_53 (by decide) ?_
        exact gm_zret rfl d_X0_readTest_54 (Nat.le_of_ble_eq_true rfl) (Nat.le_of_ble_eq_true rfl) (fun h => h)
      ·
        refine gm_iconst (v := 0) d_X0_readTest_35 (by decide) ?_
        exact gm_zret rfl d_X0_readTest_36 (Nat.le_of_ble_eq_true rfl) (Nat.le_of_ble_eq_true rfl) (fun h => h)
    ·
      refine gm_iconst (v := 0) d_X0_readTest_24 (by decide) ?_
      exact gm_zret rfl d_X0_readTest_25 (Nat.le_of_ble_eq_true rfl) (Nat.le_of_ble_eq_true rfl) (fun h => h)
  ·
    refine gm_iconst (v := 0) d_X0_readTest_11 (by decide) ?_
    exact gm_zret rfl d_X0_readTest_12 (Nat.le_of_ble_eq_true rfl) (Nat.le_of_ble_eq_true rfl) (fun h => h)
theorem d_X0_take_0 : decode prog_2_method_11_code 0 = .ok (.aload_n 0, 1) := ge_aload_n_0 (by decide +kernel)
theorem d_X0_take_1 : decode prog_2_method_11_code 1 = .ok (.invokevirtual 59, 3) := ge_invokevirtual (by decide +kernel)
theorem d_X0_take_4 : decode prog_2_method_11_code 4 = .ok (.iload_n 1, 1) := ge_iload_n_1 (by decide +kernel)
theorem d_X0_take_5 : decode prog_2_method_11_code 5 = .ok (.if_icmp .eq 5, 3) := ge_if_icmp_eq (by decide +kernel)
theorem d_X0_take_8 : decode prog_2_method_11_code 8 = .ok (.iconst 0, 1) := ge_iconst_0 (by decide +kernel)
theorem d_X0_take_9 : decode prog_2_method_11_code 9 = .ok (.ireturn, 1) := ge_ireturn (by decide +kernel)
theorem d_X0_take_10 : decode prog_2_method_11_code 10 = .ok (.aload_n 0, 1) := ge_aload_n_0 (by decide +kernel)
theorem d_X0_take_11 : decode prog_2_method_11_code 11 = .ok (.dup, 1) := ge_dup (by decide +kernel)
theorem d_X0_take_12 : decode prog_2_method_11_code 12 = .ok (.getfield 42, 3) := ge_getfield (by decide +kernel)
theorem d_X0_take_15 : decode prog_2_method_11_code 15 = .ok (.iconst 1, 1) := ge_iconst_1 (by decide +kernel)
theorem d_X0_take_16 : decode prog_2_method_11_code 16 = .ok (.iadd, 1) := ge_iadd (by decide +kernel)
theorem d_X0_take_17 : decode prog_2_method_11_code 17 = .ok (.putfield 42, 3) := ge_putfield (by decide +kernel)
theorem d_X0_take_20 : decode prog_2_method_11_code 20 = .ok (.iconst 1, 1) := ge_iconst_1 (by decide +kernel)
theorem d_X0_take_21 : decode prog_2_method_11_code 21 = .ok (.ireturn, 1) := ge_ireturn (by decide +kernel)
def f_X0_take (a0 : Nat) (a1 : Int32) (μ : gm_M) : Option (Option Value × gm_M) := if gm_tag μ a0 = 5 then gm_bI (f_X0_next a0 μ) (fun x2 m1 => if x2 = a1 then gm_gI m1 [5] a0 9 (fun v3 => gm_pI m1 [5] a0 9 (v3 + (1 : Int32)) (fun m4 => if (1 : Int32) = 0 ∨ (1 : Int32) = 1 then some (some (.int (1 : Int32)), m4) else none)) else if (0 : Int32) = 0 ∨ (0 : Int32) = 1 then some (some (.int (0 : Int32)), m1) else none) else none
set_option maxHeartbeats 4000000 in
theorem c_X0_take (a0 : Nat) (a1 : Int32) (μ : gm_M) : gm_Call ({ cls := "GumBubble$Afternoon", name := "take", desc := "(C)Z" } : Jvm.MethodName) prog_2_method_11_code 2 (some .boolean) 1 0 0 [.ref a0, .int a1] μ (f_X0_take a0 a1 μ) := by
  refine gm_start PN_0 (Nat.le_of_ble_eq_true rfl) (fun res μe => ?_)
  unfold f_X0_take
  show gm_A "GumBubble$Afternoon" (gm_nm "take") _ _ _ _ _ _ _ _ _ 0 [(0, .ref a0), (1, .int a1)] [] _ _
  refine gm_aload_n d_X0_take_0 rfl 0 rfl ?_
  refine gm_grd (fun g1 => ?_)
  refine gm_callV (k0 := 0) [] (c_X0_next a0 μ) g1 rfl B_X0_next gw_316 gs_1 rfl rfl rfl d_X0_take_1 (gm_kI (fun x2 m1 => ?_))
  refine gm_iload_n d_X0_take_4 rfl 1 rfl ?_
  refine gm_icmp_eq (tgt := 10) d_X0_take_5 (by decide) (fun h5 => ?_) (fun h5 => ?_)
  ·
    refine gm_aload_n d_X0_take_10 rfl 0 rfl ?_
    refine gm_dup d_X0_take_11 rfl ?_
    refine gm_getI F_0_at gw_137 d_X0_take_12 (fun v3 _ => ?_)
    refine gm_iconst (v := 1) d_X0_take_15 (by decide) ?_
    refine gm_iadd d_X0_take_16 ?_
    refine gm_putI F_0_at (Or.inl rfl) gw_137 d_X0_take_17 (fun m4 _ => ?_)
    refine gm_iconst (v := 1) d_X0_take_20 (by decide) ?_
    exact gm_zret rfl d_X0_take_21 (Nat.le_of_ble_eq_true rfl) (Nat.le_of_ble_eq_true rfl) (fun h => h)
  ·
    refine gm_iconst (v := 0) d_X0_take_8 (by decide) ?_
    exact gm_zret rfl d_X0_take_9 (Nat.le_of_ble_eq_true rfl) (Nat.le_of_ble_eq_true rfl) (fun h => h)
theorem d_X0_readEither_0 : decode prog_2_method_7_code 0 = .ok (.aload_n 0, 1) := ge_aload_n_0 (by decide +kernel)
theorem d_X0_readEither_1 : decode prog_2_method_7_code 1 = .ok (.iload_n 1, 1) := ge_iload_n_1 (by decide +kernel)
theorem d_X0_readEither_2 : decode prog_2_method_7_code 2 = .ok (.invokevirtual 95, 3) := ge_invokevirtual (by decide +kernel)
theorem d_X0_readEither_5 : decode prog_2_method_7_code 5 = .ok (.ifCond .ne 5, 3) := ge_ifCond_ne (by decide +kernel)
theorem d_X0_readEither_8 : decode prog_2_method_7_code 8 = .ok (.iconst 0, 1) := ge_iconst_0 (by decide +kernel)
theorem d_X0_readEither_9 : decode prog_2_method_7_code 9 = .ok (.ireturn, 1) := ge_ireturn (by decide +kernel)
theorem d_X0_readEither_10 : decode prog_2_method_7_code 10 = .ok (.iconst 0, 1) := ge_iconst_0 (by decide +kernel)
theorem d_X0_readEither_11 : decode prog_2_method_7_code 11 = .ok (.istore_n 2, 1) := ge_istore_n_2 (by decide +kernel)
theorem d_X0_readEither_12 : decode prog_2_method_7_code 12 = .ok (.aload_n 0, 1) := ge_aload_n_0 (by decide +kernel)
theorem d_X0_readEither_13 : decode prog_2_method_7_code 13 = .ok (.getfield 42, 3) := ge_getfield (by decide +kernel)
theorem d_X0_readEither_16 : decode prog_2_method_7_code 16 = .ok (.istore_n 3, 1) := ge_istore_n_3 (by decide +kernel)
theorem d_X0_readEither_17 : decode prog_2_method_7_code 17 = .ok (.iload_n 3, 1) := ge_iload_n_3 (by decide +kernel)
theorem d_X0_readEither_18 : decode prog_2_method_7_code 18 = .ok (.aload_n 0, 1) := ge_aload_n_0 (by decide +kernel)
theorem d_X0_readEither_19 : decode prog_2_method_7_code 19 = .ok (.getfield 35, 3) := ge_getfield (by decide +kernel)
theorem d_X0_readEither_22 : decode prog_2_method_7_code 22 = .ok (.if_icmp .ge 68, 3) := ge_if_icmp_ge (by decide +kernel)
theorem d_X0_readEither_25 : decode prog_2_method_7_code 25 = .ok (.aload_n 0, 1) := ge_aload_n_0 (by decide +kernel)
theorem d_X0_readEither_26 : decode prog_2_method_7_code 26 = .ok (.bipush 38, 2) := ge_bipush (by decide +kernel)
theorem d_X0_readEither_28 : decode prog_2_method_7_code 28 = .ok (.invokevirtual 38, 3) := ge_invokevirtual (by decide +kernel)
theorem d_X0_readEither_31 : decode prog_2_method_7_code 31 = .ok (.ifCond .eq 22, 3) := ge_ifCond_eq (by decide +kernel)
theorem d_X0_readEither_34 : decode prog_2_method_7_code 34 = .ok (.aload_n 0, 1) := ge_aload_n_0 (by decide +kernel)
theorem d_X0_readEither_35 : decode prog_2_method_7_code 35 = .ok (.iload_n 1, 1) := ge_iload_n_1 (by decide +kernel)
theorem d_X0_readEither_36 : decode prog_2_method_7_code 36 = .ok (.invokevirtual 95, 3) := ge_invokevirtual (by decide +kernel)
theorem d_X0_readEither_39 : decode prog_2_method_7_code 39 = .ok (.ifCond .ne 5, 3) := ge_ifCond_ne (by decide +kernel)
theorem d_X0_readEither_42 : decode prog_2_method_7_code 42 = .ok (.iconst 0, 1) := ge_iconst_0 (by decide +kernel)
theorem d_X0_readEither_43 : decode prog_2_method_7_code 43 = .ok (.ireturn, 1) := ge_ireturn (by decide +kernel)
theorem d_X0_readEither_44 : decode prog_2_method_7_code 44 = .ok (.aload_n 0, 1) := ge_aload_n_0 (by decide +kernel)
theorem d_X0_readEither_45 : decode prog_2_method_7_code 45 = .ok (.bipush (-2), 2) := ge_bipush (by decide +kernel)
theorem d_X0_readEither_47 : decode prog_2_method_7_code 47 = .ok (.invokevirtual 98, 3) := ge_invokevirtual (by decide +kernel)
theorem d_X0_readEither_50 : decode prog_2_method_7_code 50 = .ok (.goto 34, 3) := ge_goto (by decide +kernel)
theorem d_X0_readEither_53 : decode prog_2_method_7_code 53 = .ok (.aload_n 0, 1) := ge_aload_n_0 (by decide +kernel)
theorem d_X0_readEither_54 : decode prog_2_method_7_code 54 = .ok (.bipush 124, 2) := ge_bipush (by decide +kernel)
theorem d_X0_readEither_56 : decode prog_2_method_7_code 56 = .ok (.invokevirtual 38, 3) := ge_invokevirtual (by decide +kernel)
theorem d_X0_readEither_59 : decode prog_2_method_7_code 59 = .ok (.ifCond .eq 31, 3) := ge_ifCond_eq (by decide +kernel)
theorem d_X0_readEither_62 : decode prog_2_method_7_code 62 = .ok (.iload_n 2, 1) := ge_iload_n_2 (by decide +kernel)
theorem d_X0_readEither_63 : decode prog_2_method_7_code 63 = .ok (.ifCond .eq 9, 3) := ge_ifCond_eq (by decide +kernel)
theorem d_X0_readEither_66 : decode prog_2_method_7_code 66 = .ok (.aload_n 0, 1) := ge_aload_n_0 (by decide +kernel)
theorem d_X0_readEither_67 : decode prog_2_method_7_code 67 = .ok (.bipush (-3), 2) := ge_bipush (by decide +kernel)
theorem d_X0_readEither_69 : decode prog_2_method_7_code 69 = .ok (.invokevirtual 98, 3) := ge_invokevirtual (by decide +kernel)
theorem d_X0_readEither_72 : decode prog_2_method_7_code 72 = .ok (.iconst 1, 1) := ge_iconst_1 (by decide +kernel)
theorem d_X0_readEither_73 : decode prog_2_method_7_code 73 = .ok (.istore_n 2, 1) := ge_istore_n_2 (by decide +kernel)
theorem d_X0_readEither_74 : decode prog_2_method_7_code 74 = .ok (.aload_n 0, 1) := ge_aload_n_0 (by decide +kernel)
theorem d_X0_readEither_75 : decode prog_2_method_7_code 75 = .ok (.iload_n 1, 1) := ge_iload_n_1 (by decide +kernel)
theorem d_X0_readEither_76 : decode prog_2_method_7_code 76 = .ok (.invokevirtual 95, 3) := ge_invokevirtual (by decide +kernel)
theorem d_X0_readEither_79 : decode prog_2_method_7_code 79 = .ok (.ifCond .ne 5, 3) := ge_ifCond_ne (by decide +kernel)
theorem d_X0_readEither_82 : decode prog_2_method_7_code 82 = .ok (.iconst 0, 1) := ge_iconst_0 (by decide +kernel)
theorem d_X0_readEither_83 : decode prog_2_method_7_code 83 = .ok (.ireturn, 1) := ge_ireturn (by decide +kernel)
theorem d_X0_readEither_84 : decode prog_2_method_7_code 84 = .ok (.iinc 3 1, 3) := ge_iinc (by decide +kernel)
theorem d_X0_readEither_87 : decode prog_2_method_7_code 87 = .ok (.goto (-70), 3) := ge_goto (by decide +kernel)
theorem d_X0_readEither_90 : decode prog_2_method_7_code 90 = .ok (.iload_n 2, 1) := ge_iload_n_2 (by decide +kernel)
theorem d_X0_readEither_91 : decode prog_2_method_7_code 91 = .ok (.ifCond .eq 9, 3) := ge_ifCond_eq (by decide +kernel)
theorem d_X0_readEither_94 : decode prog_2_method_7_code 94 = .ok (.aload_n 0, 1) := ge_aload_n_0 (by decide +kernel)
theorem d_X0_readEither_95 : decode prog_2_method_7_code 95 = .ok (.bipush (-3), 2) := ge_bipush (by decide +kernel)
theorem d_X0_readEither_97 : decode prog_2_method_7_code 97 = .ok (.invokevirtual 98, 3) := ge_invokevirtual (by decide +kernel)
theorem d_X0_readEither_100 : decode prog_2_method_7_code 100 = .ok (.iconst 1, 1) := ge_iconst_1 (by decide +kernel)
theorem d_X0_readEither_101 : decode prog_2_method_7_code 101 = .ok (.ireturn, 1) := ge_ireturn (by decide +kernel)
theorem d_X0_readFactor_0 : decode prog_2_method_8_code 0 = .ok (.aload_n 0, 1) := ge_aload_n_0 (by decide +kernel)
theorem d_X0_readFactor_1 : decode prog_2_method_8_code 1 = .ok (.invokevirtual 59, 3) := ge_invokevirtual (by decide +kernel)
theorem d_X0_readFactor_4 : decode prog_2_method_8_code 4 = .ok (.istore_n 2, 1) := ge_istore_n_2 (by decide +kernel)
theorem d_X0_readFactor_5 : decode prog_2_method_8_code 5 = .ok (.iload_n 2, 1) := ge_iload_n_2 (by decide +kernel)
theorem d_X0_readFactor_6 : decode prog_2_method_8_code 6 = .ok (.bipush 33, 2) := ge_bipush (by decide +kernel)
theorem d_X0_readFactor_8 : decode prog_2_method_8_code 8 = .ok (.if_icmp .eq 14, 3) := ge_if_icmp_eq (by decide +kernel)
theorem d_X0_readFactor_11 : decode prog_2_method_8_code 11 = .ok (.iload_n 2, 1) := ge_iload_n_2 (by decide +kernel)
theorem d_X0_readFactor_12 : decode prog_2_method_8_code 12 = .ok (.bipush 40, 2) := ge_bipush (by decide +kernel)
theorem d_X0_readFactor_14 : decode prog_2_method_8_code 14 = .ok (.if_icmp .eq 8, 3) := ge_if_icmp_eq (by decide +kernel)
theorem d_X0_readFactor_17 : decode prog_2_method_8_code 17 = .ok (.aload_n 0, 1) := ge_aload_n_0 (by decide +kernel)
theorem d_X0_readFactor_18 : decode prog_2_method_8_code 18 = .ok (.invokevirtual 101, 3) := ge_invokevirtual (by decide +kernel)
theorem d_X0_readFactor_21 : decode prog_2_method_8_code 21 = .ok (.ireturn, 1) := ge_ireturn (by decide +kernel)
theorem d_X0_readFactor_22 : decode prog_2_method_8_code 22 = .ok (.iload_n 1, 1) := ge_iload_n_1 (by decide +kernel)
theorem d_X0_readFactor_23 : decode prog_2_method_8_code 23 = .ok (.iconst 5, 1) := ge_iconst_5 (by decide +kernel)
theorem d_X0_readFactor_24 : decode prog_2_method_8_code 24 = .ok (.if_icmp .lt 5, 3) := ge_if_icmp_lt (by decide +kernel)
theorem d_X0_readFactor_27 : decode prog_2_method_8_code 27 = .ok (.iconst 0, 1) := ge_iconst_0 (by decide +kernel)
theorem d_X0_readFactor_28 : decode prog_2_method_8_code 28 = .ok (.ireturn, 1) := ge_ireturn (by decide +kernel)
theorem d_X0_readFactor_29 : decode prog_2_method_8_code 29 = .ok (.aload_n 0, 1) := ge_aload_n_0 (by decide +kernel)
theorem d_X0_readFactor_30 : decode prog_2_method_8_code 30 = .ok (.dup, 1) := ge_dup (by decide +kernel)
theorem d_X0_readFactor_31 : decode prog_2_method_8_code 31 = .ok (.getfield 42, 3) := ge_getfield (by decide +kernel)
theorem d_X0_readFactor_34 : decode prog_2_method_8_code 34 = .ok (.iconst 1, 1) := ge_iconst_1 (by decide +kernel)
theorem d_X0_readFactor_35 : decode prog_2_method_8_code 35 = .ok (.iadd, 1) := ge_iadd (by decide +kernel)
theorem d_X0_readFactor_36 : decode prog_2_method_8_code 36 = .ok (.putfield 42, 3) := ge_putfield (by decide +kernel)
theorem d_X0_readFactor_39 : decode prog_2_method_8_code 39 = .ok (.iload_n 2, 1) := ge_iload_n_2 (by decide +kernel)
theorem d_X0_readFactor_40 : decode prog_2_method_8_code 40 = .ok (.bipush 40, 2) := ge_bipush (by decide +kernel)
theorem d_X0_readFactor_42 : decode prog_2_method_8_code 42 = .ok (.if_icmp .ne 28, 3) := ge_if_icmp_ne (by decide +kernel)
theorem d_X0_readFactor_45 : decode prog_2_method_8_code 45 = .ok (.aload_n 0, 1) := ge_aload_n_0 (by decide +kernel)
theorem d_X0_readFactor_46 : decode prog_2_method_8_code 46 = .ok (.iload_n 1, 1) := ge_iload_n_1 (by decide +kernel)
theorem d_X0_readFactor_47 : decode prog_2_method_8_code 47 = .ok (.iconst 1, 1) := ge_iconst_1 (by decide +kernel)
theorem d_X0_readFactor_48 : decode prog_2_method_8_code 48 = .ok (.iadd, 1) := ge_iadd (by decide +kernel)
theorem d_X0_readFactor_49 : decode prog_2_method_8_code 49 = .ok (.invokevirtual 75, 3) := ge_invokevirtual (by decide +kernel)
theorem d_X0_readFactor_52 : decode prog_2_method_8_code 52 = .ok (.ifCond .eq 16, 3) := ge_ifCond_eq (by decide +kernel)
theorem d_X0_readFactor_55 : decode prog_2_method_8_code 55 = .ok (.aload_n 0, 1) := ge_aload_n_0 (by decide +kernel)
theorem d_X0_readFactor_56 : decode prog_2_method_8_code 56 = .ok (.bipush 41, 2) := ge_bipush (by decide +kernel)
theorem d_X0_readFactor_58 : decode prog_2_method_8_code 58 = .ok (.invokevirtual 38, 3) := ge_invokevirtual (by decide +kernel)
theorem d_X0_readFactor_61 : decode prog_2_method_8_code 61 = .ok (.ifCond .eq 7, 3) := ge_ifCond_eq (by decide +kernel)
theorem d_X0_readFactor_64 : decode prog_2_method_8_code 64 = .ok (.iconst 1, 1) := ge_iconst_1 (by decide +kernel)
theorem d_X0_readFactor_65 : decode prog_2_method_8_code 65 = .ok (.goto 4, 3) := ge_goto (by decide +kernel)
theorem d_X0_readFactor_68 : decode prog_2_method_8_code 68 = .ok (.iconst 0, 1) := ge_iconst_0 (by decide +kernel)
theorem d_X0_readFactor_69 : decode prog_2_method_8_code 69 = .ok (.ireturn, 1) := ge_ireturn (by decide +kernel)
theorem d_X0_readFactor_70 : decode prog_2_method_8_code 70 = .ok (.aload_n 0, 1) := ge_aload_n_0 (by decide +kernel)
theorem d_X0_readFactor_71 : decode prog_2_method_8_code 71 = .ok (.iload_n 1, 1) := ge_iload_n_1 (by decide +kernel)
theorem d_X0_readFactor_72 : decode prog_2_method_8_code 72 = .ok (.iconst 1, 1) := ge_iconst_1 (by decide +kernel)
theorem d_X0_readFactor_73 : decode prog_2_method_8_code 73 = .ok (.iadd, 1) := ge_iadd (by decide +kernel)
theorem d_X0_readFactor_74 : decode prog_2_method_8_code 74 = .ok (.invokevirtual 95, 3) := ge_invokevirtual (by decide +kernel)
theorem d_X0_readFactor_77 : decode prog_2_method_8_code 77 = .ok (.ifCond .ne 5, 3) := ge_ifCond_ne (by decide +kernel)
theorem d_X0_readFactor_80 : decode prog_2_method_8_code 80 = .ok (.iconst 0, 1) := ge_iconst_0 (by decide +kernel)
theorem d_X0_readFactor_81 : decode prog_2_method_8_code 81 = .ok (.ireturn, 1) := ge_ireturn (by decide +kernel)
theorem d_X0_readFactor_82 : decode prog_2_method_8_code 82 = .ok (.aload_n 0, 1) := ge_aload_n_0 (by decide +kernel)
theorem d_X0_readFactor_83 : decode prog_2_method_8_code 83 = .ok (.iconst (-1), 1) := ge_iconst_m1_ (by decide +kernel)
theorem d_X0_readFactor_84 : decode prog_2_method_8_code 84 = .ok (.invokevirtual 98, 3) := ge_invokevirtual (by decide +kernel)
theorem d_X0_readFactor_87 : decode prog_2_method_8_code 87 = .ok (.iconst 1, 1) := ge_iconst_1 (by decide +kernel)
theorem d_X0_readFactor_88 : decode prog_2_method_8_code 88 = .ok (.ireturn, 1) := ge_ireturn (by decide +kernel)
def b_X0_readEither (R0 : Nat → Int32 → gm_M → Option (Option Value × gm_M)) (R1 : Nat → Int32 → gm_M → Option (Option Value × gm_M)) (a0 : Nat) (a1 : Int32) (μ : gm_M) : Option (Option Value × gm_M) := if gm_tag μ a0 = 5 then gm_bI (R1 a0 a1 μ) (fun x2 m1 => if x2 ≠ 0 then gm_gI m1 [5] a0 9 (fun v3 => gm_loop (fun (s4 : Int32 × Int32 × gm_M) => gm_gI s4.2.2 [5] a0 8 (fun v5 => gm_j (fun (s6 : gm_M) => if s4.1 = 0 then if (1 : Int32) = 0 ∨ (1 : Int32) = 1 then some (Sum.inr (some (.int (1 : Int32)), s6)) else none else if gm_tag s6 a0 = 5 then gm_bV (f_X0_put a0 (-3 : Int32) s6) (fun m8 => if (1 : Int32) = 0 ∨ (1 : Int32) = 1 then some (Sum.inr (some (.int (1 : Int32)), m8)) else none) else none) (fun j7 => if v5 ≤ s4.2.1 then j7 s4.2.2 else if gm_tag s4.2.2 a0 = 5 then gm_bI (f_X0_take a0 (38 : Int32) s4.2.2) (fun x11 m10 => gm_j (fun (s12 : Int32 × gm_M) => some (Sum.inl (s12.1, (s4.2.1 + (1 : Int32)), s12.2))) (fun j13 => if x11 = 0 then if gm_tag m10 a0 = 5 then gm_bI (f_X0_take a0 (124 : Int32) m10) (fun x15 m14 => if x15 = 0 then j7 m14 else gm_j (fun (s16 : gm_M) => if gm_tag s16 a0 = 5 then gm_bI (R1 a0 a1 s16) (fun x19 m18 => if x19 ≠ 0 then j13 ((1 : Int32), m18) else if (0 : Int32) = 0 ∨ (0 : Int32) = 1 then some (Sum.inr (some (.int (0 : Int32)), m18)) else none) else none) (fun j17 => if s4.1 = 0 then j17 m14 else if gm_tag m14 a0 = 5 then gm_bV (f_X0_put a0 (-3 : Int32) m14) (fun m20 => j17 m20) else none)) else none else if gm_tag m10 a0 = 5 then gm_bI (R1 a0 a1 m10) (fun x23 m22 => if x23 ≠ 0 then if gm_tag m22 a0 = 5 then gm_bV (f_X0_put a0 (-2 : Int32) m22) (fun m24 => j13 (s4.1, m24)) else none else if (0 : Int32) = 0 ∨ (0 : Int32) = 1 then some (Sum.inr (some (.int (0 : Int32)), m22)) else none) else none)) else none))) 5000 ((0 : Int32), v3, m1)) else if (0 : Int32) = 0 ∨ (0 : Int32) = 1 then some (some (.int (0 : Int32)), m1) else none) else none
set_option maxHeartbeats 4000000 in
theorem bc_X0_readEither (d : Nat) (R0 : Nat → Int32 → gm_M → Option (Option Value × gm_M)) (R1 : Nat → Int32 → gm_M → Option (Option Value × gm_M)) (hR0 : ∀ (a0 : Nat) (a1 : Int32) (μ : gm_M), gm_Call ({ cls := "GumBubble$Afternoon", name := "readEither", desc := "(I)Z" } : Jvm.MethodName) prog_2_method_7_code 4 (some .boolean) (d + 6) 0 0 [.ref a0, .int a1] μ (R0 a0 a1 μ)) (hR1 : ∀ (a0 : Nat) (a1 : Int32) (μ : gm_M), gm_Call ({ cls := "GumBubble$Afternoon", name := "readFactor", desc := "(I)Z" } : Jvm.MethodName) prog_2_method_8_code 3 (some .boolean) (d + 6) 0 0 [.ref a0, .int a1] μ (R1 a0 a1 μ)) (a0 : Nat) (a1 : Int32) (μ : gm_M) : gm_Call ({ cls := "GumBubble$Afternoon", name := "readEither", desc := "(I)Z" } : Jvm.MethodName) prog_2_method_7_code 4 (some .boolean) (d + 1 + 6) 0 0 [.ref a0, .int a1] μ (b_X0_readEither R0 R1 a0 a1 μ) := by
  refine gm_start PN_0 (Nat.le_of_ble_eq_true rfl) (fun res μe => ?_)
  unfold b_X0_readEither
  show gm_A "GumBubble$Afternoon" (gm_nm "readEither") _ _ _ _ _ _ _ _ _ 0 [(0, .ref a0), (1, .int a1)] [] _ _
  refine gm_aload_n d_X0_readEither_0 rfl 0 rfl ?_
  refine gm_iload_n d_X0_readEither_1 rfl 1 rfl ?_
  refine gm_grd (fun g2 => ?_)
  refine gm_callV (k0 := 0) [.int a1] (hR1 a0 a1 μ) g2 rfl B_X0_readFactor gw_388 gs_6 (gm_hit2 (by simp only [gm_rm]; omega) (by simp only [gm_rm]; omega) (Nat.le_refl 0) (Nat.le_refl 0)) rfl rfl d_X0_readEither_2 (gm_kI (fun x2 m1 => ?_))
  refine gm_if_ne (tgt := 10) d_X0_readEither_5 (by decide) (fun h5 => ?_) (fun h5 => ?_)
  ·
    refine gm_iconst (v := 0) d_X0_readEither_10 (by decide) ?_
    refine gm_istore_n (L' := [(2, .int (0 : Int32)), (0, .ref a0), (1, .int a1)]) d_X0_readEither_11 rfl (Nat.le_of_ble_eq_true rfl) rfl ?_
    refine gm_aload_n d_X0_readEither_12 rfl 1 rfl ?_
    refine gm_getI F_0_at gw_137 d_X0_readEither_13 (fun v3 _ => ?_)
    refine gm_istore_n (L' := [(3, .int v3), (2, .int (0 : Int32)), (0, .ref a0), (1, .int a1)]) d_X0_readEither_16 rfl (Nat.le_of_ble_eq_true rfl) rfl ?_
    refine gm_sub (L' := [(0, .ref a0), (1, .int a1), (2, .int (0 : Int32)), (3, .int v3)]) [2, 3, 1, 0] rfl ?_
    refine gm_lp (S := Int32 × Int32 × gm_M) (fun _ => 0) (fun _ => 0) (fun s4 => s4.2.2) (fun s4 => [(0, .ref a0), (1, .int a1), (2, .int s4.1), (3, .int s4.2.1)]) (fun _ => []) (fun s4 => ?_) 5000 ((0 : Int32), v3, m1)
    refine gm_iload_n d_X0_readEither_17 rfl 3 rfl ?_
    refine gm_aload_n d_X0_readEither_18 rfl 0 rfl ?_
    refine gm_getI F_0_size gw_136 d_X0_readEither_19 (fun v5 _ => ?_)
    refine gm_join (S := gm_M) (pj := 90) (kj := 0) (nj := 0) (fun s6 => s6) (fun s6 => [(0, .ref a0), (1, .int a1), (2, .int s4.1), (3, .int s4.2.1)]) (fun s6 => []) (fun s6 => ?_) (fun j7 hj7 => ?_)
    ·
      refine gm_iload_n d_X0_readEither_90 rfl 2 rfl ?_
      refine gm_if_eq (tgt := 100) d_X0_readEither_91 (by decide) (fun h91 => ?_) (fun h91 => ?_)
      ·
        refine gm_iconst (v := 1) d_X0_readEither_100 (by decide) ?_
        exact gm_zret rfl d_X0_readEither_101 (Nat.le_of_ble_eq_true rfl) (Nat.le_of_ble_eq_true rfl) (fun h => h)
      ·
        refine gm_aload_n d_X0_readEither_94 rfl 0 rfl ?_
        refine gm_bipush (v := -3) d_X0_readEither_95 (by decide) ?_
        refine gm_grd (fun g97 => ?_)
        refine gm_callV (k0 := 0) [.int (-3 : Int32)] (c_X0_put a0 (-3 : Int32) s6) g97 rfl B_X0_put gw_457 gs_9 (gm_hit2 (by simp only [gm_rm]; omega) (by simp only [gm_rm]; omega) (Nat.le_refl 0) (Nat.le_refl 0)) rfl rfl d_X0_readEither_97 (gm_kV (fun m8 => ?_))
        refine gm_iconst (v := 1) d_X0_readEither_100 (by decide) ?_
        exact gm_zret rfl d_X0_readEither_101 (Nat.le_of_ble_eq_true rfl) (Nat.le_of_ble_eq_true rfl) (fun h => h)
    ·
      refine gm_icmp_ge (tgt := 90) d_X0_readEither_22 (by decide) (fun h22 => ?_) (fun h22 => ?_)
      ·
        exact hj7 s4.2.2
      ·
        refine gm_aload_n d_X0_readEither_25 rfl 0 rfl ?_
        refine gm_bipush (v := 38) d_X0_readEither_26 (by decide) ?_
        refine gm_grd (fun g28 => ?_)
        refine gm_callV (k0 := 0) [.int (38 : Int32)] (c_X0_take a0 (38 : Int32) s4.2.2) g28 rfl B_X0_take gw_312 gs_0 (gm_hit2 (by simp only [gm_rm]; omega) (by simp only [gm_rm]; omega) (Nat.le_refl 0) (Nat.le_refl 0)) rfl rfl d_X0_readEither_28 (gm_kI (fun x11 m10 => ?_))
        refine gm_join (S := Int32 × gm_M) (pj := 84) (kj := 0) (nj := 0) (fun s12 => s12.2) (fun s12 => [(0, .ref a0), (1, .int a1), (2, .int s12.1), (3, .int s4.2.1)]) (fun s12 => []) (fun s12 => ?_) (fun j13 hj13 => ?_)
        ·
          refine gm_iinc (v := s4.2.1 + (1 : Int32)) (L' := [(3, .int (s4.2.1 + (1 : Int32))), (0, .ref a0), (1, .int a1), (2, .int s12.1)]) d_X0_readEither_84 3 rfl rfl (Nat.le_of_ble_eq_true rfl) rfl ?_
          refine gm_goto (tgt := 17) d_X0_readEither_87 (by decide) ?_
          refine gm_sub (L' := [(0, .ref a0), (1, .int a1), (2, .int s12.1), (3, .int (s4.2.1 + (1 : Int32)))]) [1, 2, 3, 0] rfl ?_
          exact gm_back (fun h => h)
        ·
          refine gm_if_eq (tgt := 53) d_X0_readEither_31 (by decide) (fun h31 => ?_) (fun h31 => ?_)
          ·
            refine gm_aload_n d_X0_readEither_53 rfl 0 rfl ?_
            refine gm_bipush (v := 124) d_X0_readEither_54 (by decide) ?_
            refine gm_grd (fun g56 => ?_)
            refine gm_callV (k0 := 0) [.int (124 : Int32)] (c_X0_take a0 (124 : Int32) m10) g56 rfl B_X0_take gw_312 gs_0 (gm_hit2 (by simp only [gm_rm]; omega) (by simp only [gm_rm]; omega) (Nat.le_refl 0) (Nat.le_refl 0)) rfl rfl d_X0_readEither_56 (gm_kI (fun x15 m14 => ?_))
            refine gm_if_eq (tgt := 90) d_X0_readEither_59 (by decide) (fun h59 => ?_) (fun h59 => ?_)
            ·
              exact hj7 m14
            ·
              refine gm_iload_n d_X0_readEither_62 rfl 2 rfl ?_
              refine gm_join (S := gm_M) (pj := 72) (kj := 0) (nj := 0) (fun s16 => s16) (fun s16 => [(0, .ref a0), (1, .int a1), (2, .int s4.1), (3, .int s4.2.1)]) (fun s16 => []) (fun s16 => ?_) (fun j17 hj17 => ?_)
              ·
                refine gm_iconst (v := 1) d_X0_readEither_72 (by decide) ?_
                refine gm_istore_n (L' := [(2, .int (1 : Int32)), (0, .ref a0), (1, .int a1), (3, .int s4.2.1)]) d_X0_readEither_73 rfl (Nat.le_of_ble_eq_true rfl) rfl ?_
                refine gm_aload_n d_X0_readEither_74 rfl 1 rfl ?_
                refine gm_iload_n d_X0_readEither_75 rfl 2 rfl ?_
                refine gm_grd (fun g76 => ?_)
                refine gm_callV (k0 := 0) [.int a1] (hR1 a0 a1 s16) g76 rfl B_X0_readFactor gw_388 gs_6 (gm_hit2 (by simp only [gm_rm]; omega) (by simp only [gm_rm]; omega) (Nat.le_refl 0) (Nat.le_refl 0)) rfl rfl d_X0_readEither_76 (gm_kI (fun x19 m18 => ?_))
                refine gm_if_ne (tgt := 84) d_X0_readEither_79 (by decide) (fun h79 => ?_) (fun h79 => ?_)
                ·
                  refine gm_sub (L' := [(0, .ref a0), (1, .int a1), (2, .int (1 : Int32)), (3, .int s4.2.1)]) [1, 2, 0, 3] rfl ?_
                  exact hj13 ((1 : Int32), m18)
                ·
                  refine gm_iconst (v := 0) d_X0_readEither_82 (by decide) ?_
                  exact gm_zret rfl d_X0_readEither_83 (Nat.le_of_ble_eq_true rfl) (Nat.le_of_ble_eq_true rfl) (fun h => h)
              ·
                refine gm_if_eq (tgt := 72) d_X0_readEither_63 (by decide) (fun h63 => ?_) (fun h63 => ?_)
                ·
                  exact hj17 m14
                ·
                  refine gm_aload_n d_X0_readEither_66 rfl 0 rfl ?_
                  refine gm_bipush (v := -3) d_X0_readEither_67 (by decide) ?_
                  refine gm_grd (fun g69 => ?_)
                  refine gm_callV (k0 := 0) [.int (-3 : Int32)] (c_X0_put a0 (-3 : Int32) m14) g69 rfl B_X0_put gw_457 gs_9 (gm_hit2 (by simp only [gm_rm]; omega) (by simp only [gm_rm]; omega) (Nat.le_refl 0) (Nat.le_refl 0)) rfl rfl d_X0_readEither_69 (gm_kV (fun m20 => ?_))
                  exact hj17 m20
          ·
            refine gm_aload_n d_X0_readEither_34 rfl 0 rfl ?_
            refine gm_iload_n d_X0_readEither_35 rfl 1 rfl ?_
            refine gm_grd (fun g36 => ?_)
            refine gm_callV (k0 := 0) [.int a1] (hR1 a0 a1 m10) g36 rfl B_X0_readFactor gw_388 gs_6 (gm_hit2 (by simp only [gm_rm]; omega) (by simp only [gm_rm]; omega) (Nat.le_refl 0) (Nat.le_refl 0)) rfl rfl d_X0_readEither_36 (gm_kI (fun x23 m22 => ?_))
            refine gm_if_ne (tgt := 44) d_X0_readEither_39 (by decide) (fun h39 => ?_) (fun h39 => ?_)
            ·
              refine gm_aload_n d_X0_readEither_44 rfl 0 rfl ?_
              refine gm_bipush (v := -2) d_X0_readEither_45 (by decide) ?_
              refine gm_grd (fun g47 => ?_)
              refine gm_callV (k0 := 0) [.int (-2 : Int32)] (c_X0_put a0 (-2 : Int32) m22) g47 rfl B_X0_put gw_457 gs_9 (gm_hit2 (by simp only [gm_rm]; omega) (by simp only [gm_rm]; omega) (Nat.le_refl 0) (Nat.le_refl 0)) rfl rfl d_X0_readEither_47 (gm_kV (fun m24 => ?_))
              refine gm_goto (tgt := 84) d_X0_readEither_50 (by decide) ?_
              exact hj13 (s4.1, m24)
            ·
              refine gm_iconst (v := 0) d_X0_readEither_42 (by decide) ?_
              exact gm_zret rfl d_X0_readEither_43 (Nat.le_of_ble_eq_true rfl) (Nat.le_of_ble_eq_true rfl) (fun h => h)
  ·
    refine gm_iconst (v := 0) d_X0_readEither_8 (by decide) ?_
    exact gm_zret rfl d_X0_readEither_9 (Nat.le_of_ble_eq_true rfl) (Nat.le_of_ble_eq_true rfl) (fun h => h)
def b_X0_readFactor (R0 : Nat → Int32 → gm_M → Option (Option Value × gm_M)) (R1 : Nat → Int32 → gm_M → Option (Option Value × gm_M)) (a0 : Nat) (a1 : Int32) (μ : gm_M) : Option (Option Value × gm_M) := if gm_tag μ a0 = 5 then gm_bI (f_X0_next a0 μ) (fun x2 m1 => gm_j (fun (s3 : Unit) => if a1 < (5 : Int32) then gm_gI m1 [5] a0 9 (fun v5 => gm_pI m1 [5] a0 9 (v5 + (1 : Int32)) (fun m6 => if x2 ≠ (40 : Int32) then if gm_tag m6 a0 = 5 then gm_bI (R1 a0 (a1 + (1 : Int32)) m6) (fun x8 m7 => if x8 ≠ 0 then if gm_tag m7 a0 = 5 then gm_bV (f_X0_put a0 (-1 : Int32) m7) (fun m9 => if (1 : Int32) = 0 ∨ (1 : Int32) = 1 then some (some (.int (1 : Int32)), m9) else none) else none else if (0 : Int32) = 0 ∨ (0 : Int32) = 1 then some (some (.int (0 : Int32)), m7) else none) else none else if gm_tag m6 a0 = 5 then gm_bI (R0 a0 (a1 + (1 : Int32)) m6) (fun x12 m11 => if x12 = 0 then if (0 : Int32) = 0 ∨ (0 : Int32) = 1 then some (some (.int (0 : Int32)), m11) else none else if gm_tag m11 a0 = 5 then gm_bI (f_X0_take a0 (41 : Int32) m11) (fun x14 m13 => if x14 = 0 then if (0 : Int32) = 0 ∨ (0 : Int32) = 1 then some (some (.int (0 : Int32)), m13) else none else if (1 : Int32) = 0 ∨ (1 : Int32) = 1 then some (some (.int (1 : Int32)), m13) else none) else none) else none)) else if (0 : Int32) = 0 ∨ (0 : Int32) = 1 then some (some (.int (0 : Int32)), m1) else none) (fun j4 => if x2 = (33 : Int32) then j4 () else if x2 = (40 : Int32) then j4 () else if gm_tag m1 a0 = 5 then gm_bI (f_X0_readTest a0 m1) (fun x16 m15 => if x16 = 0 ∨ x16 = 1 then some (some (.int x16), m15) else none) else none)) else none
set_option maxHeartbeats 4000000 in
theorem bc_X0_readFactor (d : Nat) (R0 : Nat → Int32 → gm_M → Option (Option Value × gm_M)) (R1 : Nat → Int32 → gm_M → Option (Option Value × gm_M)) (hR0 : ∀ (a0 : Nat) (a1 : Int32) (μ : gm_M), gm_Call ({ cls := "GumBubble$Afternoon", name := "readEither", desc := "(I)Z" } : Jvm.MethodName) prog_2_method_7_code 4 (some .boolean) (d + 6) 0 0 [.ref a0, .int a1] μ (R0 a0 a1 μ)) (hR1 : ∀ (a0 : Nat) (a1 : Int32) (μ : gm_M), gm_Call ({ cls := "GumBubble$Afternoon", name := "readFactor", desc := "(I)Z" } : Jvm.MethodName) prog_2_method_8_code 3 (some .boolean) (d + 6) 0 0 [.ref a0, .int a1] μ (R1 a0 a1 μ)) (a0 : Nat) (a1 : Int32) (μ : gm_M) : gm_Call ({ cls := "GumBubble$Afternoon", name := "readFactor", desc := "(I)Z" } : Jvm.MethodName) prog_2_method_8_code 3 (some .boolean) (d + 1 + 6) 0 0 [.ref a0, .int a1] μ (b_X0_readFactor R0 R1 a0 a1 μ) := by
  refine gm_start PN_0 (Nat.le_of_ble_eq_true rfl) (fun res μe => ?_)
  unfold b_X0_readFactor
  show gm_A "GumBubble$Afternoon" (gm_nm "readFactor") _ _ _ _ _ _ _ _ _ 0 [(0, .ref a0), (1, .int a1)] [] _ _
  refine gm_aload_n d_X0_readFactor_0 rfl 0 rfl ?_
  refine gm_grd (fun g1 => ?_)
  refine gm_callV (k0 := 0) [] (c_X0_next a0 μ) g1 rfl B_X0_next gw_316 gs_1 (gm_hit2 (by simp only [gm_rm]; omega) (by simp only [gm_rm]; omega) (Nat.le_refl 0) (Nat.le_refl 0)) rfl rfl d_X0_readFactor_1 (gm_kI (fun x2 m1 => ?_))
  refine gm_istore_n (L' := [(2, .int x2), (0, .ref a0), (1, .int a1)]) d_X0_readFactor_4 rfl (Nat.le_of_ble_eq_true rfl) rfl ?_
  refine gm_iload_n d_X0_readFactor_5 rfl 0 rfl ?_
  refine gm_bipush (v := 33) d_X0_readFactor_6 (by decide) ?_
  refine gm_join (S := Unit) (pj := 22) (kj := 0) (nj := 0) (fun s3 => m1) (fun s3 => [(0, .ref a0), (1, .int a1), (2, .int x2)]) (fun s3 => []) (fun s3 => ?_) (fun j4 hj4 => ?_)
  ·
    refine gm_iload_n d_X0_readFactor_22 rfl 1 rfl ?_
    refine gm_iconst (v := 5) d_X0_readFactor_23 (by decide) ?_
    refine gm_icmp_lt (tgt := 29) d_X0_readFactor_24 (by decide) (fun h24 => ?_) (fun h24 => ?_)
    ·
      refine gm_aload_n d_X0_readFactor_29 rfl 0 rfl ?_
      refine gm_dup d_X0_readFactor_30 rfl ?_
      refine gm_getI F_0_at gw_137 d_X0_readFactor_31 (fun v5 _ => ?_)
      refine gm_iconst (v := 1) d_X0_readFactor_34 (by decide) ?_
      refine gm_iadd d_X0_readFactor_35 ?_
      refine gm_putI F_0_at (Or.inl rfl) gw_137 d_X0_readFactor_36 (fun m6 _ => ?_)
      refine gm_iload_n d_X0_readFactor_39 rfl 2 rfl ?_
      refine gm_bipush (v := 40) d_X0_readFactor_40 (by decide) ?_
      refine gm_icmp_ne (tgt := 70) d_X0_readFactor_42 (by decide) (fun h42 => ?_) (fun h42 => ?_)
      ·
        refine gm_aload_n d_X0_readFactor_70 rfl 0 rfl ?_
        refine gm_iload_n d_X0_readFactor_71 rfl 1 rfl ?_
        refine gm_iconst (v := 1) d_X0_readFactor_72 (by decide) ?_
        refine gm_iadd d_X0_readFactor_73 ?_
        refine gm_grd (fun g74 => ?_)
        refine gm_callV (k0 := 0) [.int (a1 + (1 : Int32))] (hR1 a0 (a1 + (1 : Int32)) m6) g74 rfl B_X0_readFactor gw_388 gs_6 (gm_hit2 (by simp only [gm_rm]; omega) (by simp only [gm_rm]; omega) (Nat.le_refl 0) (Nat.le_refl 0)) rfl rfl d_X0_readFactor_74 (gm_kI (fun x8 m7 => ?_))
        refine gm_if_ne (tgt := 82) d_X0_readFactor_77 (by decide) (fun h77 => ?_) (fun h77 => ?_)
        ·
          refine gm_aload_n d_X0_readFactor_82 rfl 0 rfl ?_
          refine gm_iconst (v := -1) d_X0_readFactor_83 (by decide) ?_
          refine gm_grd (fun g84 => ?_)
          refine gm_callV (k0 := 0) [.int (-1 : Int32)] (c_X0_put a0 (-1 : Int32) m7) g84 rfl B_X0_put gw_457 gs_9 (gm_hit2 (by simp only [gm_rm]; omega) (by simp only [gm_rm]; omega) (Nat.le_refl 0) (Nat.le_refl 0)) rfl rfl d_X0_readFactor_84 (gm_kV (fun m9 => ?_))
          refine gm_iconst (v := 1) d_X0_readFactor_87 (by decide) ?_
          exact gm_zret rfl d_X0_readFactor_88 (Nat.le_of_ble_eq_true rfl) (Nat.le_of_ble_eq_true rfl) (fun h => h)
        ·
          refine gm_iconst (v := 0) d_X0_readFactor_80 (by decide) ?_
          exact gm_zret rfl d_X0_readFactor_81 (Nat.le_of_ble_eq_true rfl) (Nat.le_of_ble_eq_true rfl) (fun h => h)
      ·
        refine gm_aload_n d_X0_readFactor_45 rfl 0 rfl ?_
        refine gm_iload_n d_X0_readFactor_46 rfl 1 rfl ?_
        refine gm_iconst (v := 1) d_X0_readFactor_47 (by decide) ?_
        refine gm_iadd d_X0_readFactor_48 ?_
        refine gm_grd (fun g49 => ?_)
        refine gm_callV (k0 := 0) [.int (a1 + (1 : Int32))] (hR0 a0 (a1 + (1 : Int32)) m6) g49 rfl B_X0_readEither gw_384 gs_5 (gm_hit2 (by simp only [gm_rm]; omega) (by simp only [gm_rm]; omega) (Nat.le_refl 0) (Nat.le_refl 0)) rfl rfl d_X0_readFactor_49 (gm_kI (fun x12 m11 => ?_))
        refine gm_if_eq (tgt := 68) d_X0_readFactor_52 (by decide) (fun h52 => ?_) (fun h52 => ?_)
        ·
          refine gm_iconst (v := 0) d_X0_readFactor_68 (by decide) ?_
          exact gm_zret rfl d_X0_readFactor_69 (Nat.le_of_ble_eq_true rfl) (Nat.le_of_ble_eq_true rfl) (fun h => h)
        ·
          refine gm_aload_n d_X0_readFactor_55 rfl 0 rfl ?_
          refine gm_bipush (v := 41) d_X0_readFactor_56 (by decide) ?_
          refine gm_grd (fun g58 => ?_)
          refine gm_callV (k0 := 0) [.int (41 : Int32)] (c_X0_take a0 (41 : Int32) m11) g58 rfl B_X0_take gw_312 gs_0 (gm_hit2 (by simp only [gm_rm]; omega) (by simp only [gm_rm]; omega) (Nat.le_refl 0) (Nat.le_refl 0)) rfl rfl d_X0_readFactor_58 (gm_kI (fun x14 m13 => ?_))
          refine gm_if_eq (tgt := 68) d_X0_readFactor_61 (by decide) (fun h61 => ?_) (fun h61 => ?_)
          ·
            refine gm_iconst (v := 0) d_X0_readFactor_68 (by decide) ?_
            exact gm_zret rfl d_X0_readFactor_69 (Nat.le_of_ble_eq_true rfl) (Nat.le_of_ble_eq_true rfl) (fun h => h)
          ·
            refine gm_iconst (v := 1) d_X0_readFactor_64 (by decide) ?_
            refine gm_goto (tgt := 69) d_X0_readFactor_65 (by decide) ?_
            exact gm_zret rfl d_X0_readFactor_69 (Nat.le_of_ble_eq_true rfl) (Nat.le_of_ble_eq_true rfl) (fun h => h)
    ·
      refine gm_iconst (v := 0) d_X0_readFactor_27 (by decide) ?_
      exact gm_zret rfl d_X0_readFactor_28 (Nat.le_of_ble_eq_true rfl) (Nat.le_of_ble_eq_true rfl) (fun h => h)
  ·
    refine gm_icmp_eq (tgt := 22) d_X0_readFactor_8 (by decide) (fun h8 => ?_) (fun h8 => ?_)
    ·
      refine gm_sub (L' := [(0, .ref a0), (1, .int a1), (2, .int x2)]) [1, 2, 0] rfl ?_
      exact hj4 ()
    ·
      refine gm_iload_n d_X0_readFactor_11 rfl 0 rfl ?_
      refine gm_bipush (v := 40) d_X0_readFactor_12 (by decide) ?_
      refine gm_icmp_eq (tgt := 22) d_X0_readFactor_14 (by decide) (fun h14 => ?_) (fun h14 => ?_)
      ·
        refine gm_sub (L' := [(0, .ref a0), (1, .int a1), (2, .int x2)]) [1, 2, 0] rfl ?_
        exact hj4 ()
      ·
        refine gm_aload_n d_X0_readFactor_17 rfl 1 rfl ?_
        refine gm_grd (fun g18 => ?_)
        refine gm_callV (k0 := 0) [] (c_X0_readTest a0 m1) g18 rfl B_X0_readTest gw_392 gs_7 (gm_hit2 (by simp only [gm_rm]; omega) (by simp only [gm_rm]; omega) (Nat.le_refl 0) (Nat.le_refl 0)) rfl rfl d_X0_readFactor_18 (gm_kI (fun x16 m15 => ?_))
        exact gm_zret rfl d_X0_readFactor_21 (Nat.le_of_ble_eq_true rfl) (Nat.le_of_ble_eq_true rfl) (fun h => h)
def r_X0_readEither : Nat → (Nat → Int32 → gm_M → Option (Option Value × gm_M)) × (Nat → Int32 → gm_M → Option (Option Value × gm_M))
  | 0 => (fun _ _ _ => none, fun _ _ _ => none)
  | d + 1 => (b_X0_readEither (r_X0_readEither d).1 (r_X0_readEither d).2, b_X0_readFactor (r_X0_readEither d).1 (r_X0_readEither d).2)
theorem rc_X0_readEither : ∀ d : Nat, (∀ (a0 : Nat) (a1 : Int32) (μ : gm_M), gm_Call ({ cls := "GumBubble$Afternoon", name := "readEither", desc := "(I)Z" } : Jvm.MethodName) prog_2_method_7_code 4 (some .boolean) (d + 6) 0 0 [.ref a0, .int a1] μ ((r_X0_readEither d).1 a0 a1 μ)) ∧ (∀ (a0 : Nat) (a1 : Int32) (μ : gm_M), gm_Call ({ cls := "GumBubble$Afternoon", name := "readFactor", desc := "(I)Z" } : Jvm.MethodName) prog_2_method_8_code 3 (some .boolean) (d + 6) 0 0 [.ref a0, .int a1] μ ((r_X0_readEither d).2 a0 a1 μ)) := by
  intro d
  induction d with
  | zero =>
    exact ⟨fun _ _ _ _ _ h => (by cases h), fun _ _ _ _ _ h => (by cases h)⟩
  | succ d ih =>
    exact ⟨bc_X0_readEither d _ _ ih.1 ih.2, bc_X0_readFactor d _ _ ih.1 ih.2⟩
def f_X0_readEither (a0 : Nat) (a1 : Int32) (μ : gm_M) : Option (Option Value × gm_M) := (r_X0_readEither 64).1 a0 a1 μ
theorem c_X0_readEither (a0 : Nat) (a1 : Int32) (μ : gm_M) : gm_Call ({ cls := "GumBubble$Afternoon", name := "readEither", desc := "(I)Z" } : Jvm.MethodName) prog_2_method_7_code 4 (some .boolean) 70 0 0 [.ref a0, .int a1] μ (f_X0_readEither a0 a1 μ) := (rc_X0_readEither 64).1 a0 a1 μ
def f_X0_readFactor (a0 : Nat) (a1 : Int32) (μ : gm_M) : Option (Option Value × gm_M) := (r_X0_readEither 64).2 a0 a1 μ
theorem c_X0_readFactor (a0 : Nat) (a1 : Int32) (μ : gm_M) : gm_Call ({ cls := "GumBubble$Afternoon", name := "readFactor", desc := "(I)Z" } : Jvm.MethodName) prog_2_method_8_code 3 (some .boolean) 70 0 0 [.ref a0, .int a1] μ (f_X0_readFactor a0 a1 μ) := (rc_X0_readEither 64).2 a0 a1 μ
theorem d_X0_readWordAndNumber_0 : decode prog_2_method_5_code 0 = .ok (.iconst 0, 1) := ge_iconst_0 (by decide +kernel)
theorem d_X0_readWordAndNumber_1 : decode prog_2_method_5_code 1 = .ok (.istore_n 2, 1) := ge_istore_n_2 (by decide +kernel)
theorem d_X0_readWordAndNumber_2 : decode prog_2_method_5_code 2 = .ok (.iload_n 2, 1) := ge_iload_n_2 (by decide +kernel)
theorem d_X0_readWordAndNumber_3 : decode prog_2_method_5_code 3 = .ok (.aload_n 1, 1) := ge_aload_n_1 (by decide +kernel)
theorem d_X0_readWordAndNumber_4 : decode prog_2_method_5_code 4 = .ok (.invokevirtual 83, 3) := ge_invokevirtual (by decide +kernel)
theorem d_X0_readWordAndNumber_7 : decode prog_2_method_5_code 7 = .ok (.if_icmp .ge 23, 3) := ge_if_icmp_ge (by decide +kernel)
theorem d_X0_readWordAndNumber_10 : decode prog_2_method_5_code 10 = .ok (.aload_n 0, 1) := ge_aload_n_0 (by decide +kernel)
theorem d_X0_readWordAndNumber_11 : decode prog_2_method_5_code 11 = .ok (.aload_n 1, 1) := ge_aload_n_1 (by decide +kernel)
theorem d_X0_readWordAndNumber_12 : decode prog_2_method_5_code 12 = .ok (.iload_n 2, 1) := ge_iload_n_2 (by decide +kernel)
theorem d_X0_readWordAndNumber_13 : decode prog_2_method_5_code 13 = .ok (.invokevirtual 88, 3) := ge_invokevirtual (by decide +kernel)
theorem d_X0_readWordAndNumber_16 : decode prog_2_method_5_code 16 = .ok (.invokevirtual 38, 3) := ge_invokevirtual (by decide +kernel)
theorem d_X0_readWordAndNumber_19 : decode prog_2_method_5_code 19 = .ok (.ifCond .ne 5, 3) := ge_ifCond_ne (by decide +kernel)
theorem d_X0_readWordAndNumber_22 : decode prog_2_method_5_code 22 = .ok (.iconst (-1), 1) := ge_iconst_m1_ (by decide +kernel)
theorem d_X0_readWordAndNumber_23 : decode prog_2_method_5_code 23 = .ok (.ireturn, 1) := ge_ireturn (by decide +kernel)
theorem d_X0_readWordAndNumber_24 : decode prog_2_method_5_code 24 = .ok (.iinc 2 1, 3) := ge_iinc (by decide +kernel)
theorem d_X0_readWordAndNumber_27 : decode prog_2_method_5_code 27 = .ok (.goto (-25), 3) := ge_goto (by decide +kernel)
theorem d_X0_readWordAndNumber_30 : decode prog_2_method_5_code 30 = .ok (.aload_n 0, 1) := ge_aload_n_0 (by decide +kernel)
theorem d_X0_readWordAndNumber_31 : decode prog_2_method_5_code 31 = .ok (.invokevirtual 92, 3) := ge_invokevirtual (by decide +kernel)
theorem d_X0_readWordAndNumber_34 : decode prog_2_method_5_code 34 = .ok (.ireturn, 1) := ge_ireturn (by decide +kernel)
def f_X0_readWordAndNumber (a0 : Nat) (a1 : UInt32) (μ : gm_M) : Option (Option Value × gm_M) := gm_loop (fun (s1 : Int32 × gm_M) => if gm_isS a1 then gm_bI (f_J0_length_8abf5 a1 s1.2) (fun x3 m2 => if x3 ≤ s1.1 then if gm_tag m2 a0 = 5 then gm_bI (f_X0_readNumber a0 m2) (fun x5 m4 => some (Sum.inr (some (.int x5), m4))) else none else if gm_isS a1 then gm_bI (f_J0_charAt_5068e a1 s1.1 m2) (fun x7 m6 => if gm_tag m6 a0 = 5 then gm_bI (f_X0_take a0 x7 m6) (fun x9 m8 => if x9 ≠ 0 then some (Sum.inl ((s1.1 + (1 : Int32)), m8)) else some (Sum.inr (some (.int (-1 : Int32)), m8))) else none) else none) else none) 5000 ((0 : Int32), μ)
set_option maxHeartbeats 4000000 in
theorem c_X0_readWordAndNumber (a0 : Nat) (a1 : UInt32) (μ : gm_M) : gm_Call ({ cls := "GumBubble$Afternoon", name := "readWordAndNumber", desc := "(Ljava/lang/String;)I" } : Jvm.MethodName) prog_2_method_5_code 3 (some .int) 4 0 0 [.ref a0, .float a1] μ (f_X0_readWordAndNumber a0 a1 μ) := by
  refine gm_start PN_0 (Nat.le_of_ble_eq_true rfl) (fun res μe => ?_)
  unfold f_X0_readWordAndNumber
  show gm_A "GumBubble$Afternoon" (gm_nm "readWordAndNumber") _ _ _ _ _ _ _ _ _ 0 [(0, .ref a0), (1, .float a1)] [] _ _
  refine gm_iconst (v := 0) d_X0_readWordAndNumber_0 (by decide) ?_
  refine gm_istore_n (L' := [(2, .int (0 : Int32)), (0, .ref a0), (1, .float a1)]) d_X0_readWordAndNumber_1 rfl (Nat.le_of_ble_eq_true rfl) rfl ?_
  refine gm_sub (L' := [(0, .ref a0), (1, .float a1), (2, .int (0 : Int32))]) [1, 2, 0] rfl ?_
  refine gm_lp (S := Int32 × gm_M) (fun _ => 0) (fun _ => 0) (fun s1 => s1.2) (fun s1 => [(0, .ref a0), (1, .float a1), (2, .int s1.1)]) (fun _ => []) (fun s1 => ?_) 5000 ((0 : Int32), μ)
  refine gm_iload_n d_X0_readWordAndNumber_2 rfl 2 rfl ?_
  refine gm_aloadF d_X0_readWordAndNumber_3 rfl 1 rfl ?_
  refine gm_grd (fun g4 => ?_)
  refine gm_callT [] (c_J0_length_8abf5 a1 s1.2) g4 B_J0_length_8abf5 gw_329 gw_331 rfl rfl rfl d_X0_readWordAndNumber_4 (gm_kI (fun x3 m2 => ?_))
  refine gm_icmp_ge (tgt := 30) d_X0_readWordAndNumber_7 (by decide) (fun h7 => ?_) (fun h7 => ?_)
  ·
    refine gm_aload_n d_X0_readWordAndNumber_30 rfl 0 rfl ?_
    refine gm_grd (fun g31 => ?_)
    refine gm_callV (k0 := 0) [] (c_X0_readNumber a0 m2) g31 rfl B_X0_readNumber gw_377 gs_4 rfl rfl rfl d_X0_readWordAndNumber_31 (gm_kI (fun x5 m4 => ?_))
    exact gm_iret rfl d_X0_readWordAndNumber_34 (Nat.le_of_ble_eq_true rfl) (Nat.le_of_ble_eq_true rfl) (fun h => h)
  ·
    refine gm_aload_n d_X0_readWordAndNumber_10 rfl 0 rfl ?_
    refine gm_aloadF d_X0_readWordAndNumber_11 rfl 1 rfl ?_
    refine gm_iload_n d_X0_readWordAndNumber_12 rfl 2 rfl ?_
    refine gm_grd (fun g13 => ?_)
    refine gm_callT [.int s1.1] (c_J0_charAt_5068e a1 s1.1 m2) g13 B_J0_charAt_5068e gw_339 gw_341 rfl rfl rfl d_X0_readWordAndNumber_13 (gm_kI (fun x7 m6 => ?_))
    refine gm_grd (fun g16 => ?_)
    refine gm_callV (k0 := 0) [.int x7] (c_X0_take a0 x7 m6) g16 rfl B_X0_take gw_312 gs_0 rfl rfl rfl d_X0_readWordAndNumber_16 (gm_kI (fun x9 m8 => ?_))
    refine gm_if_ne (tgt := 24) d_X0_readWordAndNumber_19 (by decide) (fun h19 => ?_) (fun h19 => ?_)
    ·
      refine gm_iinc (v := s1.1 + (1 : Int32)) (L' := [(2, .int (s1.1 + (1 : Int32))), (0, .ref a0), (1, .float a1)]) d_X0_readWordAndNumber_24 2 rfl rfl (Nat.le_of_ble_eq_true rfl) rfl ?_
      refine gm_goto (tgt := 2) d_X0_readWordAndNumber_27 (by decide) ?_
      refine gm_sub (L' := [(0, .ref a0), (1, .float a1), (2, .int (s1.1 + (1 : Int32)))]) [1, 2, 0] rfl ?_
      exact gm_back (fun h => h)
    ·
      refine gm_iconst (v := -1) d_X0_readWordAndNumber_22 (by decide) ?_
      exact gm_iret rfl d_X0_readWordAndNumber_23 (Nat.le_of_ble_eq_true rfl) (Nat.le_of_ble_eq_true rfl) (fun h => h)
theorem d_X0_readClause_0 : decode prog_2_method_4_code 0 = .ok (.aload_n 0, 1) := ge_aload_n_0 (by decide +kernel)
theorem d_X0_readClause_1 : decode prog_2_method_4_code 1 = .ok (.invokevirtual 59, 3) := ge_invokevirtual (by decide +kernel)
theorem d_X0_readClause_4 : decode prog_2_method_4_code 4 = .ok (.bipush 119, 2) := ge_bipush (by decide +kernel)
theorem d_X0_readClause_6 : decode prog_2_method_4_code 6 = .ok (.if_icmp .ne 25, 3) := ge_if_icmp_ne (by decide +kernel)
theorem d_X0_readClause_9 : decode prog_2_method_4_code 9 = .ok (.aload_n 0, 1) := ge_aload_n_0 (by decide +kernel)
theorem d_X0_readClause_10 : decode prog_2_method_4_code 10 = .ok (.ldc 63, 2) := ge_ldc (by decide +kernel)
theorem d_X0_readClause_12 : decode prog_2_method_4_code 12 = .ok (.invokevirtual 65, 3) := ge_invokevirtual (by decide +kernel)
theorem d_X0_readClause_15 : decode prog_2_method_4_code 15 = .ok (.istore_n 1, 1) := ge_istore_n_1 (by decide +kernel)
theorem d_X0_readClause_16 : decode prog_2_method_4_code 16 = .ok (.aload_n 0, 1) := ge_aload_n_0 (by decide +kernel)
theorem d_X0_readClause_17 : decode prog_2_method_4_code 17 = .ok (.iload_n 1, 1) := ge_iload_n_1 (by decide +kernel)
theorem d_X0_readClause_18 : decode prog_2_method_4_code 18 = .ok (.putfield 7, 3) := ge_putfield (by decide +kernel)
theorem d_X0_readClause_21 : decode prog_2_method_4_code 21 = .ok (.iload_n 1, 1) := ge_iload_n_1 (by decide +kernel)
theorem d_X0_readClause_22 : decode prog_2_method_4_code 22 = .ok (.ifCond .lt 7, 3) := ge_ifCond_lt (by decide +kernel)
theorem d_X0_readClause_25 : decode prog_2_method_4_code 25 = .ok (.iconst 1, 1) := ge_iconst_1 (by decide +kernel)
theorem d_X0_readClause_26 : decode prog_2_method_4_code 26 = .ok (.goto 4, 3) := ge_goto (by decide +kernel)
theorem d_X0_readClause_29 : decode prog_2_method_4_code 29 = .ok (.iconst 0, 1) := ge_iconst_0 (by decide +kernel)
theorem d_X0_readClause_30 : decode prog_2_method_4_code 30 = .ok (.ireturn, 1) := ge_ireturn (by decide +kernel)
theorem d_X0_readClause_31 : decode prog_2_method_4_code 31 = .ok (.aload_n 0, 1) := ge_aload_n_0 (by decide +kernel)
theorem d_X0_readClause_32 : decode prog_2_method_4_code 32 = .ok (.bipush 115, 2) := ge_bipush (by decide +kernel)
theorem d_X0_readClause_34 : decode prog_2_method_4_code 34 = .ok (.invokevirtual 38, 3) := ge_invokevirtual (by decide +kernel)
theorem d_X0_readClause_37 : decode prog_2_method_4_code 37 = .ok (.ifCond .ne 5, 3) := ge_ifCond_ne (by decide +kernel)
theorem d_X0_readClause_40 : decode prog_2_method_4_code 40 = .ok (.iconst 0, 1) := ge_iconst_0 (by decide +kernel)
theorem d_X0_readClause_41 : decode prog_2_method_4_code 41 = .ok (.ireturn, 1) := ge_ireturn (by decide +kernel)
theorem d_X0_readClause_42 : decode prog_2_method_4_code 42 = .ok (.aload_n 0, 1) := ge_aload_n_0 (by decide +kernel)
theorem d_X0_readClause_43 : decode prog_2_method_4_code 43 = .ok (.invokevirtual 59, 3) := ge_invokevirtual (by decide +kernel)
theorem d_X0_readClause_46 : decode prog_2_method_4_code 46 = .ok (.bipush 119, 2) := ge_bipush (by decide +kernel)
theorem d_X0_readClause_48 : decode prog_2_method_4_code 48 = .ok (.if_icmp .ne 25, 3) := ge_if_icmp_ne (by decide +kernel)
theorem d_X0_readClause_51 : decode prog_2_method_4_code 51 = .ok (.aload_n 0, 1) := ge_aload_n_0 (by decide +kernel)
theorem d_X0_readClause_52 : decode prog_2_method_4_code 52 = .ok (.ldc 69, 2) := ge_ldc (by decide +kernel)
theorem d_X0_readClause_54 : decode prog_2_method_4_code 54 = .ok (.invokevirtual 65, 3) := ge_invokevirtual (by decide +kernel)
theorem d_X0_readClause_57 : decode prog_2_method_4_code 57 = .ok (.istore_n 1, 1) := ge_istore_n_1 (by decide +kernel)
theorem d_X0_readClause_58 : decode prog_2_method_4_code 58 = .ok (.aload_n 0, 1) := ge_aload_n_0 (by decide +kernel)
theorem d_X0_readClause_59 : decode prog_2_method_4_code 59 = .ok (.iload_n 1, 1) := ge_iload_n_1 (by decide +kernel)
theorem d_X0_readClause_60 : decode prog_2_method_4_code 60 = .ok (.putfield 13, 3) := ge_putfield (by decide +kernel)
theorem d_X0_readClause_63 : decode prog_2_method_4_code 63 = .ok (.iload_n 1, 1) := ge_iload_n_1 (by decide +kernel)
theorem d_X0_readClause_64 : decode prog_2_method_4_code 64 = .ok (.ifCond .lt 7, 3) := ge_ifCond_lt (by decide +kernel)
theorem d_X0_readClause_67 : decode prog_2_method_4_code 67 = .ok (.iconst 1, 1) := ge_iconst_1 (by decide +kernel)
theorem d_X0_readClause_68 : decode prog_2_method_4_code 68 = .ok (.goto 4, 3) := ge_goto (by decide +kernel)
theorem d_X0_readClause_71 : decode prog_2_method_4_code 71 = .ok (.iconst 0, 1) := ge_iconst_0 (by decide +kernel)
theorem d_X0_readClause_72 : decode prog_2_method_4_code 72 = .ok (.ireturn, 1) := ge_ireturn (by decide +kernel)
theorem d_X0_readClause_73 : decode prog_2_method_4_code 73 = .ok (.aload_n 0, 1) := ge_aload_n_0 (by decide +kernel)
theorem d_X0_readClause_74 : decode prog_2_method_4_code 74 = .ok (.bipush 116, 2) := ge_bipush (by decide +kernel)
theorem d_X0_readClause_76 : decode prog_2_method_4_code 76 = .ok (.invokevirtual 38, 3) := ge_invokevirtual (by decide +kernel)
theorem d_X0_readClause_79 : decode prog_2_method_4_code 79 = .ok (.ifCond .ne 5, 3) := ge_ifCond_ne (by decide +kernel)
theorem d_X0_readClause_82 : decode prog_2_method_4_code 82 = .ok (.iconst 0, 1) := ge_iconst_0 (by decide +kernel)
theorem d_X0_readClause_83 : decode prog_2_method_4_code 83 = .ok (.ireturn, 1) := ge_ireturn (by decide +kernel)
theorem d_X0_readClause_84 : decode prog_2_method_4_code 84 = .ok (.aload_n 0, 1) := ge_aload_n_0 (by decide +kernel)
theorem d_X0_readClause_85 : decode prog_2_method_4_code 85 = .ok (.invokevirtual 59, 3) := ge_invokevirtual (by decide +kernel)
theorem d_X0_readClause_88 : decode prog_2_method_4_code 88 = .ok (.bipush 114, 2) := ge_bipush (by decide +kernel)
theorem d_X0_readClause_90 : decode prog_2_method_4_code 90 = .ok (.if_icmp .ne 7, 3) := ge_if_icmp_ne (by decide +kernel)
theorem d_X0_readClause_93 : decode prog_2_method_4_code 93 = .ok (.iconst 1, 1) := ge_iconst_1 (by decide +kernel)
theorem d_X0_readClause_94 : decode prog_2_method_4_code 94 = .ok (.goto 4, 3) := ge_goto (by decide +kernel)
theorem d_X0_readClause_97 : decode prog_2_method_4_code 97 = .ok (.iconst 0, 1) := ge_iconst_0 (by decide +kernel)
theorem d_X0_readClause_98 : decode prog_2_method_4_code 98 = .ok (.istore_n 1, 1) := ge_istore_n_1 (by decide +kernel)
theorem d_X0_readClause_99 : decode prog_2_method_4_code 99 = .ok (.aload_n 0, 1) := ge_aload_n_0 (by decide +kernel)
theorem d_X0_readClause_100 : decode prog_2_method_4_code 100 = .ok (.iload_n 1, 1) := ge_iload_n_1 (by decide +kernel)
theorem d_X0_readClause_101 : decode prog_2_method_4_code 101 = .ok (.ifCond .eq 8, 3) := ge_ifCond_eq (by decide +kernel)
theorem d_X0_readClause_104 : decode prog_2_method_4_code 104 = .ok (.ldc 71, 2) := ge_ldc (by decide +kernel)
theorem d_X0_readClause_106 : decode prog_2_method_4_code 106 = .ok (.goto 5, 3) := ge_goto (by decide +kernel)
theorem d_X0_readClause_109 : decode prog_2_method_4_code 109 = .ok (.ldc 73, 2) := ge_ldc (by decide +kernel)
theorem d_X0_readClause_111 : decode prog_2_method_4_code 111 = .ok (.invokevirtual 65, 3) := ge_invokevirtual (by decide +kernel)
theorem d_X0_readClause_114 : decode prog_2_method_4_code 114 = .ok (.istore_n 2, 1) := ge_istore_n_2 (by decide +kernel)
theorem d_X0_readClause_115 : decode prog_2_method_4_code 115 = .ok (.iload_n 2, 1) := ge_iload_n_2 (by decide +kernel)
theorem d_X0_readClause_116 : decode prog_2_method_4_code 116 = .ok (.ifCond .lt 20, 3) := ge_ifCond_lt (by decide +kernel)
theorem d_X0_readClause_119 : decode prog_2_method_4_code 119 = .ok (.aload_n 0, 1) := ge_aload_n_0 (by decide +kernel)
theorem d_X0_readClause_120 : decode prog_2_method_4_code 120 = .ok (.bipush 32, 2) := ge_bipush (by decide +kernel)
theorem d_X0_readClause_122 : decode prog_2_method_4_code 122 = .ok (.invokevirtual 38, 3) := ge_invokevirtual (by decide +kernel)
theorem d_X0_readClause_125 : decode prog_2_method_4_code 125 = .ok (.ifCond .eq 11, 3) := ge_ifCond_eq (by decide +kernel)
theorem d_X0_readClause_128 : decode prog_2_method_4_code 128 = .ok (.aload_n 0, 1) := ge_aload_n_0 (by decide +kernel)
theorem d_X0_readClause_129 : decode prog_2_method_4_code 129 = .ok (.iconst 0, 1) := ge_iconst_0 (by decide +kernel)
theorem d_X0_readClause_130 : decode prog_2_method_4_code 130 = .ok (.invokevirtual 75, 3) := ge_invokevirtual (by decide +kernel)
theorem d_X0_readClause_133 : decode prog_2_method_4_code 133 = .ok (.ifCond .ne 5, 3) := ge_ifCond_ne (by decide +kernel)
theorem d_X0_readClause_136 : decode prog_2_method_4_code 136 = .ok (.iconst 0, 1) := ge_iconst_0 (by decide +kernel)
theorem d_X0_readClause_137 : decode prog_2_method_4_code 137 = .ok (.ireturn, 1) := ge_ireturn (by decide +kernel)
theorem d_X0_readClause_138 : decode prog_2_method_4_code 138 = .ok (.aload_n 0, 1) := ge_aload_n_0 (by decide +kernel)
theorem d_X0_readClause_139 : decode prog_2_method_4_code 139 = .ok (.iload_n 1, 1) := ge_iload_n_1 (by decide +kernel)
theorem d_X0_readClause_140 : decode prog_2_method_4_code 140 = .ok (.ifCond .eq 7, 3) := ge_ifCond_eq (by decide +kernel)
theorem d_X0_readClause_143 : decode prog_2_method_4_code 143 = .ok (.iload_n 2, 1) := ge_iload_n_2 (by decide +kernel)
theorem d_X0_readClause_144 : decode prog_2_method_4_code 144 = .ok (.goto 5, 3) := ge_goto (by decide +kernel)
theorem d_X0_readClause_147 : decode prog_2_method_4_code 147 = .ok (.iload_n 2, 1) := ge_iload_n_2 (by decide +kernel)
theorem d_X0_readClause_148 : decode prog_2_method_4_code 148 = .ok (.ineg, 1) := ge_ineg (by decide +kernel)
theorem d_X0_readClause_149 : decode prog_2_method_4_code 149 = .ok (.invokevirtual 79, 3) := ge_invokevirtual (by decide +kernel)
theorem d_X0_readClause_152 : decode prog_2_method_4_code 152 = .ok (.iconst 1, 1) := ge_iconst_1 (by decide +kernel)
theorem d_X0_readClause_153 : decode prog_2_method_4_code 153 = .ok (.ireturn, 1) := ge_ireturn (by decide +kernel)
def f_X0_readClause (a0 : Nat) (μ : gm_M) : Option (Option Value × gm_M) := if gm_tag μ a0 = 5 then gm_bI (f_X0_next a0 μ) (fun x2 m1 => if x2 ≠ (119 : Int32) then if gm_tag m1 a0 = 5 then gm_bI (f_X0_take a0 (115 : Int32) m1) (fun x4 m3 => if x4 ≠ 0 then if gm_tag m3 a0 = 5 then gm_bI (f_X0_next a0 m3) (fun x6 m5 => if x6 ≠ (119 : Int32) then if gm_tag m5 a0 = 5 then gm_bI (f_X0_take a0 (116 : Int32) m5) (fun x8 m7 => if x8 ≠ 0 then if gm_tag m7 a0 = 5 then gm_bI (f_X0_next a0 m7) (fun x10 m9 => gm_j (fun (s11 : Int32) => gm_j (fun (s13 : UInt32) => if gm_tag m9 a0 = 5 then gm_bI (f_X0_readWordAndNumber a0 s13 m9) (fun x16 m15 => if x16 < 0 then if (0 : Int32) = 0 ∨ (0 : Int32) = 1 then some (some (.int (0 : Int32)), m15) else none else if gm_tag m15 a0 = 5 then gm_bI (f_X0_take a0 (32 : Int32) m15) (fun x18 m17 => if x18 = 0 then if (0 : Int32) = 0 ∨ (0 : Int32) = 1 then some (some (.int (0 : Int32)), m17) else none else if gm_tag m17 a0 = 5 then gm_bI (f_X0_readEither a0 (0 : Int32) m17) (fun x20 m19 => if x20 ≠ 0 then gm_j (fun (s21 : Int32) => if gm_tag m19 a0 = 5 then gm_bV (f_X0_addChange a0 s21 m19) (fun m23 => if (1 : Int32) = 0 ∨ (1 : Int32) = 1 then some (some (.int (1 : Int32)), m23) else none) else none) (fun j22 => if s11 = 0 then j22 (-x16) else j22 x16) else if (0 : Int32) = 0 ∨ (0 : Int32) = 1 then some (some (.int (0 : Int32)), m19) else none) else none) else none) else none) (fun j14 => if s11 = 0 then j14 (4 : UInt32) else j14 (3 : UInt32))) (fun j12 => if x10 ≠ (114 : Int32) then j12 (0 : Int32) else j12 (1 : Int32))) else none else if (0 : Int32) = 0 ∨ (0 : Int32) = 1 then some (some (.int (0 : Int32)), m7) else none) else none else if gm_tag m5 a0 = 5 then gm_bI (f_X0_readWordAndNumber a0 (2 : UInt32) m5) (fun x26 m25 => gm_pI m25 [5] a0 1 x26 (fun m27 => if x26 < 0 then if (0 : Int32) = 0 ∨ (0 : Int32) = 1 then some (some (.int (0 : Int32)), m27) else none else if (1 : Int32) = 0 ∨ (1 : Int32) = 1 then some (some (.int (1 : Int32)), m27) else none)) else none) else none else if (0 : Int32) = 0 ∨ (0 : Int32) = 1 then some (some (.int (0 : Int32)), m3) else none) else none else if gm_tag m1 a0 = 5 then gm_bI (f_X0_readWordAndNumber a0 (1 : UInt32) m1) (fun x29 m28 => gm_pI m28 [5] a0 0 x29 (fun m30 => if x29 < 0 then if (0 : Int32) = 0 ∨ (0 : Int32) = 1 then some (some (.int (0 : Int32)), m30) else none else if (1 : Int32) = 0 ∨ (1 : Int32) = 1 then some (some (.int (1 : Int32)), m30) else none)) else none) else none
set_option maxHeartbeats 4000000 in
theorem c_X0_readClause (a0 : Nat) (μ : gm_M) : gm_Call ({ cls := "GumBubble$Afternoon", name := "readClause", desc := "()Z" } : Jvm.MethodName) prog_2_method_4_code 3 (some .boolean) 71 0 0 [.ref a0] μ (f_X0_readClause a0 μ) := by
  refine gm_start PN_0 (Nat.le_of_ble_eq_true rfl) (fun res μe => ?_)
  unfold f_X0_readClause
  show gm_A "GumBubble$Afternoon" (gm_nm "readClause") _ _ _ _ _ _ _ _ _ 0 [(0, .ref a0)] [] _ _
  refine gm_aload_n d_X0_readClause_0 rfl 0 rfl ?_
  refine gm_grd (fun g1 => ?_)
  refine gm_callV (k0 := 0) [] (c_X0_next a0 μ) g1 rfl B_X0_next gw_316 gs_1 rfl rfl rfl d_X0_readClause_1 (gm_kI (fun x2 m1 => ?_))
  refine gm_bipush (v := 119) d_X0_readClause_4 (by decide) ?_
  refine gm_icmp_ne (tgt := 31) d_X0_readClause_6 (by decide) (fun h6 => ?_) (fun h6 => ?_)
  ·
    refine gm_aload_n d_X0_readClause_31 rfl 0 rfl ?_
    refine gm_bipush (v := 115) d_X0_readClause_32 (by decide) ?_
    refine gm_grd (fun g34 => ?_)
    refine gm_callV (k0 := 0) [.int (115 : Int32)] (c_X0_take a0 (115 : Int32) m1) g34 rfl B_X0_take gw_312 gs_0 rfl rfl rfl d_X0_readClause_34 (gm_kI (fun x4 m3 => ?_))
    refine gm_if_ne (tgt := 42) d_X0_readClause_37 (by decide) (fun h37 => ?_) (fun h37 => ?_)
    ·
      refine gm_aload_n d_X0_readClause_42 rfl 0 rfl ?_
      refine gm_grd (fun g43 => ?_)
      refine gm_callV (k0 := 0) [] (c_X0_next a0 m3) g43 rfl B_X0_next gw_316 gs_1 rfl rfl rfl d_X0_readClause_43 (gm_kI (fun x6 m5 => ?_))
      refine gm_bipush (v := 119) d_X0_readClause_46 (by decide) ?_
      refine gm_icmp_ne (tgt := 73) d_X0_readClause_48 (by decide) (fun h48 => ?_) (fun h48 => ?_)
      ·
        refine gm_aload_n d_X0_readClause_73 rfl 0 rfl ?_
        refine gm_bipush (v := 116) d_X0_readClause_74 (by decide) ?_
        refine gm_grd (fun g76 => ?_)
        refine gm_callV (k0 := 0) [.int (116 : Int32)] (c_X0_take a0 (116 : Int32) m5) g76 rfl B_X0_take gw_312 gs_0 rfl rfl rfl d_X0_readClause_76 (gm_kI (fun x8 m7 => ?_))
        refine gm_if_ne (tgt := 84) d_X0_readClause_79 (by decide) (fun h79 => ?_) (fun h79 => ?_)
        ·
          refine gm_aload_n d_X0_readClause_84 rfl 0 rfl ?_
          refine gm_grd (fun g85 => ?_)
          refine gm_callV (k0 := 0) [] (c_X0_next a0 m7) g85 rfl B_X0_next gw_316 gs_1 rfl rfl rfl d_X0_readClause_85 (gm_kI (fun x10 m9 => ?_))
          refine gm_bipush (v := 114) d_X0_readClause_88 (by decide) ?_
          refine gm_join (S := Int32) (pj := 98) (kj := 0) (nj := 0) (fun s11 => m9) (fun s11 => [(0, .ref a0)]) (fun s11 => [.int s11]) (fun s11 => ?_) (fun j12 hj12 => ?_)
          ·
            refine gm_istore_n (L' := [(1, .int s11), (0, .ref a0)]) d_X0_readClause_98 rfl (Nat.le_of_ble_eq_true rfl) rfl ?_
            refine gm_aload_n d_X0_readClause_99 rfl 1 rfl ?_
            refine gm_iload_n d_X0_readClause_100 rfl 0 rfl ?_
            refine gm_join (S := UInt32) (pj := 111) (kj := 0) (nj := 0) (fun s13 => m9) (fun s13 => [(0, .ref a0), (1, .int s11)]) (fun s13 => [.float s13, .ref a0]) (fun s13 => ?_) (fun j14 hj14 => ?_)
            ·
              refine gm_grd (fun g111 => ?_)
              refine gm_callV (k0 := 0) [.float s13] (c_X0_readWordAndNumber a0 s13 m9) g111 rfl B_X0_readWordAndNumber gw_325 gs_3 rfl rfl rfl d_X0_readClause_111 (gm_kI (fun x16 m15 => ?_))
              refine gm_istore_n (L' := [(2, .int x16), (0, .ref a0), (1, .int s11)]) d_X0_readClause_114 rfl (Nat.le_of_ble_eq_true rfl) rfl ?_
              refine gm_iload_n d_X0_readClause_115 rfl 0 rfl ?_
              refine gm_if_lt (tgt := 136) d_X0_readClause_116 (by decide) (fun h116 => ?_) (fun h116 => ?_)
              ·
                refine gm_iconst (v := 0) d_X0_readClause_136 (by decide) ?_
                exact gm_zret rfl d_X0_readClause_137 (Nat.le_of_ble_eq_true rfl) (Nat.le_of_ble_eq_true rfl) (fun h => h)
              ·
                refine gm_aload_n d_X0_readClause_119 rfl 1 rfl ?_
                refine gm_bipush (v := 32) d_X0_readClause_120 (by decide) ?_
                refine gm_grd (fun g122 => ?_)
                refine gm_callV (k0 := 0) [.int (32 : Int32)] (c_X0_take a0 (32 : Int32) m15) g122 rfl B_X0_take gw_312 gs_0 rfl rfl rfl d_X0_readClause_122 (gm_kI (fun x18 m17 => ?_))
                refine gm_if_eq (tgt := 136) d_X0_readClause_125 (by decide) (fun h125 => ?_) (fun h125 => ?_)
                ·
                  refine gm_iconst (v := 0) d_X0_readClause_136 (by decide) ?_
                  exact gm_zret rfl d_X0_readClause_137 (Nat.le_of_ble_eq_true rfl) (Nat.le_of_ble_eq_true rfl) (fun h => h)
                ·
                  refine gm_aload_n d_X0_readClause_128 rfl 1 rfl ?_
                  refine gm_iconst (v := 0) d_X0_readClause_129 (by decide) ?_
                  refine gm_grd (fun g130 => ?_)
                  refine gm_callV (k0 := 0) [.int (0 : Int32)] (c_X0_readEither a0 (0 : Int32) m17) g130 rfl B_X0_readEither gw_384 gs_5 rfl rfl rfl d_X0_readClause_130 (gm_kI (fun x20 m19 => ?_))
                  refine gm_if_ne (tgt := 138) d_X0_readClause_133 (by decide) (fun h133 => ?_) (fun h133 => ?_)
                  ·
                    refine gm_aload_n d_X0_readClause_138 rfl 1 rfl ?_
                    refine gm_iload_n d_X0_readClause_139 rfl 2 rfl ?_
                    refine gm_join (S := Int32) (pj := 149) (kj := 0) (nj := 0) (fun s21 => m19) (fun s21 => [(0, .ref a0), (1, .int s11), (2, .int x16)]) (fun s21 => [.int s21, .ref a0]) (fun s21 => ?_) (fun j22 hj22 => ?_)
                    ·
                      refine gm_grd (fun g149 => ?_)
                      refine gm_callV (k0 := 0) [.int s21] (c_X0_addChange a0 s21 m19) g149 rfl B_X0_addChange gw_461 gs_10 rfl rfl rfl d_X0_readClause_149 (gm_kV (fun m23 => ?_))
                      refine gm_iconst (v := 1) d_X0_readClause_152 (by decide) ?_
                      exact gm_zret rfl d_X0_readClause_153 (Nat.le_of_ble_eq_true rfl) (Nat.le_of_ble_eq_true rfl) (fun h => h)
                    ·
                      refine gm_if_eq (tgt := 147) d_X0_readClause_140 (by decide) (fun h140 => ?_) (fun h140 => ?_)
                      ·
                        refine gm_iload_n d_X0_readClause_147 rfl 0 rfl ?_
                        refine gm_ineg d_X0_readClause_148 ?_
                        refine gm_sub (L' := [(0, .ref a0), (1, .int s11), (2, .int x16)]) [1, 2, 0] rfl ?_
                        exact hj22 (-x16)
                      ·
                        refine gm_iload_n d_X0_readClause_143 rfl 0 rfl ?_
                        refine gm_goto (tgt := 149) d_X0_readClause_144 (by decide) ?_
                        refine gm_sub (L' := [(0, .ref a0), (1, .int s11), (2, .int x16)]) [1, 2, 0] rfl ?_
                        exact hj22 x16
                  ·
                    refine gm_iconst (v := 0) d_X0_readClause_136 (by decide) ?_
                    exact gm_zret rfl d_X0_readClause_137 (Nat.le_of_ble_eq_true rfl) (Nat.le_of_ble_eq_true rfl) (fun h => h)
            ·
              refine gm_if_eq (tgt := 109) d_X0_readClause_101 (by decide) (fun h101 => ?_) (fun h101 => ?_)
              ·
                refine gm_ldcS (t := 3) (u := 4) (tx := "iff ") (by decide +kernel) rfl d_X0_readClause_109 ?_
                refine gm_sub (L' := [(0, .ref a0), (1, .int s11)]) [1, 0] rfl ?_
                exact hj14 (4 : UInt32)
              ·
                refine gm_ldcS (t := 2) (u := 3) (tx := "retch ") (by decide +kernel) rfl d_X0_readClause_104 ?_
                refine gm_goto (tgt := 111) d_X0_readClause_106 (by decide) ?_
                refine gm_sub (L' := [(0, .ref a0), (1, .int s11)]) [1, 0] rfl ?_
                exact hj14 (3 : UInt32)
          ·
            refine gm_icmp_ne (tgt := 97) d_X0_readClause_90 (by decide) (fun h90 => ?_) (fun h90 => ?_)
            ·
              refine gm_iconst (v := 0) d_X0_readClause_97 (by decide) ?_
              exact hj12 (0 : Int32)
            ·
              refine gm_iconst (v := 1) d_X0_readClause_93 (by decide) ?_
              refine gm_goto (tgt := 98) d_X0_readClause_94 (by decide) ?_
              exact hj12 (1 : Int32)
        ·
          refine gm_iconst (v := 0) d_X0_readClause_82 (by decide) ?_
          exact gm_zret rfl d_X0_readClause_83 (Nat.le_of_ble_eq_true rfl) (Nat.le_of_ble_eq_true rfl) (fun h => h)
      ·
        refine gm_aload_n d_X0_readClause_51 rfl 0 rfl ?_
        refine gm_ldcS (t := 1) (u := 2) (tx := "weet ") (by decide +kernel) rfl d_X0_readClause_52 ?_
        refine gm_grd (fun g54 => ?_)
        refine gm_callV (k0 := 0) [.float (2 : UInt32)] (c_X0_readWordAndNumber a0 (2 : UInt32) m5) g54 rfl B_X0_readWordAndNumber gw_325 gs_3 rfl rfl rfl d_X0_readClause_54 (gm_kI (fun x26 m25 => ?_))
        refine gm_istore_n (L' := [(1, .int x26), (0, .ref a0)]) d_X0_readClause_57 rfl (Nat.le_of_ble_eq_true rfl) rfl ?_
        refine gm_aload_n d_X0_readClause_58 rfl 1 rfl ?_
        refine gm_iload_n d_X0_readClause_59 rfl 0 rfl ?_
        refine gm_putI F_0_sweet (Or.inl rfl) gw_128 d_X0_readClause_60 (fun m27 _ => ?_)
        refine gm_iload_n d_X0_readClause_63 rfl 0 rfl ?_
        refine gm_if_lt (tgt := 71) d_X0_readClause_64 (by decide) (fun h64 => ?_) (fun h64 => ?_)
        ·
          refine gm_iconst (v := 0) d_X0_readClause_71 (by decide) ?_
          exact gm_zret rfl d_X0_readClause_72 (Nat.le_of_ble_eq_true rfl) (Nat.le_of_ble_eq_true rfl) (fun h => h)
        ·
          refine gm_iconst (v := 1) d_X0_readClause_67 (by decide) ?_
          refine gm_goto (tgt := 72) d_X0_readClause_68 (by decide) ?_
          exact gm_zret rfl d_X0_readClause_72 (Nat.le_of_ble_eq_true rfl) (Nat.le_of_ble_eq_true rfl) (fun h => h)
    ·
      refine gm_iconst (v := 0) d_X0_readClause_40 (by decide) ?_
      exact gm_zret rfl d_X0_readClause_41 (Nat.le_of_ble_eq_true rfl) (Nat.le_of_ble_eq_true rfl) (fun h => h)
  ·
    refine gm_aload_n d_X0_readClause_9 rfl 0 rfl ?_
    refine gm_ldcS (t := 0) (u := 1) (tx := "wind ") (by decide +kernel) rfl d_X0_readClause_10 ?_
    refine gm_grd (fun g12 => ?_)
    refine gm_callV (k0 := 0) [.float (1 : UInt32)] (c_X0_readWordAndNumber a0 (1 : UInt32) m1) g12 rfl B_X0_readWordAndNumber gw_325 gs_3 rfl rfl rfl d_X0_readClause_12 (gm_kI (fun x29 m28 => ?_))
    refine gm_istore_n (L' := [(1, .int x29), (0, .ref a0)]) d_X0_readClause_15 rfl (Nat.le_of_ble_eq_true rfl) rfl ?_
    refine gm_aload_n d_X0_readClause_16 rfl 1 rfl ?_
    refine gm_iload_n d_X0_readClause_17 rfl 0 rfl ?_
    refine gm_putI F_0_wind (Or.inl rfl) gw_125 d_X0_readClause_18 (fun m30 _ => ?_)
    refine gm_iload_n d_X0_readClause_21 rfl 0 rfl ?_
    refine gm_if_lt (tgt := 29) d_X0_readClause_22 (by decide) (fun h22 => ?_) (fun h22 => ?_)
    ·
      refine gm_iconst (v := 0) d_X0_readClause_29 (by decide) ?_
      exact gm_zret rfl d_X0_readClause_30 (Nat.le_of_ble_eq_true rfl) (Nat.le_of_ble_eq_true rfl) (fun h => h)
    ·
      refine gm_iconst (v := 1) d_X0_readClause_25 (by decide) ?_
      refine gm_goto (tgt := 30) d_X0_readClause_26 (by decide) ?_
      exact gm_zret rfl d_X0_readClause_30 (Nat.le_of_ble_eq_true rfl) (Nat.le_of_ble_eq_true rfl) (fun h => h)
end
section
theorem d_X0_read_0 : decode prog_2_method_2_code 0 = .ok (.aload_n 0, 1) := ge_aload_n_0 (by decide +kernel)
theorem d_X0_read_1 : decode prog_2_method_2_code 1 = .ok (.aload_n 1, 1) := ge_aload_n_1 (by decide +kernel)
theorem d_X0_read_2 : decode prog_2_method_2_code 2 = .ok (.putfield 26, 3) := ge_putfield (by decide +kernel)
theorem d_X0_read_5 : decode prog_2_method_2_code 5 = .ok (.aload_n 0, 1) := ge_aload_n_0 (by decide +kernel)
theorem d_X0_read_6 : decode prog_2_method_2_code 6 = .ok (.iload_n 2, 1) := ge_iload_n_2 (by decide +kernel)
theorem d_X0_read_7 : decode prog_2_method_2_code 7 = .ok (.aload_n 1, 1) := ge_aload_n_1 (by decide +kernel)
theorem d_X0_read_8 : decode prog_2_method_2_code 8 = .ok (.arraylength, 1) := ge_arraylength (by decide +kernel)
theorem d_X0_read_9 : decode prog_2_method_2_code 9 = .ok (.invokestatic 29, 3) := ge_invokestatic (by decide +kernel)
theorem d_X0_read_12 : decode prog_2_method_2_code 12 = .ok (.putfield 35, 3) := ge_putfield (by decide +kernel)
theorem d_X0_read_15 : decode prog_2_method_2_code 15 = .ok (.iconst 0, 1) := ge_iconst_0 (by decide +kernel)
theorem d_X0_read_16 : decode prog_2_method_2_code 16 = .ok (.istore_n 3, 1) := ge_istore_n_3 (by decide +kernel)
theorem d_X0_read_17 : decode prog_2_method_2_code 17 = .ok (.iload_n 3, 1) := ge_iload_n_3 (by decide +kernel)
theorem d_X0_read_18 : decode prog_2_method_2_code 18 = .ok (.bipush 10, 2) := ge_bipush (by decide +kernel)
theorem d_X0_read_20 : decode prog_2_method_2_code 20 = .ok (.if_icmp .ge 52, 3) := ge_if_icmp_ge (by decide +kernel)
theorem d_X0_read_23 : decode prog_2_method_2_code 23 = .ok (.iload_n 3, 1) := ge_iload_n_3 (by decide +kernel)
theorem d_X0_read_24 : decode prog_2_method_2_code 24 = .ok (.ifCond .le 17, 3) := ge_ifCond_le (by decide +kernel)
theorem d_X0_read_27 : decode prog_2_method_2_code 27 = .ok (.aload_n 0, 1) := ge_aload_n_0 (by decide +kernel)
theorem d_X0_read_28 : decode prog_2_method_2_code 28 = .ok (.bipush 59, 2) := ge_bipush (by decide +kernel)
theorem d_X0_read_30 : decode prog_2_method_2_code 30 = .ok (.invokevirtual 38, 3) := ge_invokevirtual (by decide +kernel)
theorem d_X0_read_33 : decode prog_2_method_2_code 33 = .ok (.ifCond .ne 8, 3) := ge_ifCond_ne (by decide +kernel)
theorem d_X0_read_36 : decode prog_2_method_2_code 36 = .ok (.aload_n 0, 1) := ge_aload_n_0 (by decide +kernel)
theorem d_X0_read_37 : decode prog_2_method_2_code 37 = .ok (.getfield 42, 3) := ge_getfield (by decide +kernel)
theorem d_X0_read_40 : decode prog_2_method_2_code 40 = .ok (.ireturn, 1) := ge_ireturn (by decide +kernel)
theorem d_X0_read_41 : decode prog_2_method_2_code 41 = .ok (.aload_n 0, 1) := ge_aload_n_0 (by decide +kernel)
theorem d_X0_read_42 : decode prog_2_method_2_code 42 = .ok (.invokevirtual 45, 3) := ge_invokevirtual (by decide +kernel)
theorem d_X0_read_45 : decode prog_2_method_2_code 45 = .ok (.ifCond .ne 8, 3) := ge_ifCond_ne (by decide +kernel)
theorem d_X0_read_48 : decode prog_2_method_2_code 48 = .ok (.aload_n 0, 1) := ge_aload_n_0 (by decide +kernel)
theorem d_X0_read_49 : decode prog_2_method_2_code 49 = .ok (.getfield 42, 3) := ge_getfield (by decide +kernel)
theorem d_X0_read_52 : decode prog_2_method_2_code 52 = .ok (.ireturn, 1) := ge_ireturn (by decide +kernel)
theorem d_X0_read_53 : decode prog_2_method_2_code 53 = .ok (.aload_n 0, 1) := ge_aload_n_0 (by decide +kernel)
theorem d_X0_read_54 : decode prog_2_method_2_code 54 = .ok (.getfield 42, 3) := ge_getfield (by decide +kernel)
theorem d_X0_read_57 : decode prog_2_method_2_code 57 = .ok (.aload_n 0, 1) := ge_aload_n_0 (by decide +kernel)
theorem d_X0_read_58 : decode prog_2_method_2_code 58 = .ok (.getfield 35, 3) := ge_getfield (by decide +kernel)
theorem d_X0_read_61 : decode prog_2_method_2_code 61 = .ok (.if_icmp .lt 5, 3) := ge_if_icmp_lt (by decide +kernel)
theorem d_X0_read_64 : decode prog_2_method_2_code 64 = .ok (.iconst (-1), 1) := ge_iconst_m1_ (by decide +kernel)
theorem d_X0_read_65 : decode prog_2_method_2_code 65 = .ok (.ireturn, 1) := ge_ireturn (by decide +kernel)
theorem d_X0_read_66 : decode prog_2_method_2_code 66 = .ok (.iinc 3 1, 3) := ge_iinc (by decide +kernel)
theorem d_X0_read_69 : decode prog_2_method_2_code 69 = .ok (.goto (-52), 3) := ge_goto (by decide +kernel)
theorem d_X0_read_72 : decode prog_2_method_2_code 72 = .ok (.aload_n 0, 1) := ge_aload_n_0 (by decide +kernel)
theorem d_X0_read_73 : decode prog_2_method_2_code 73 = .ok (.getfield 42, 3) := ge_getfield (by decide +kernel)
theorem d_X0_read_76 : decode prog_2_method_2_code 76 = .ok (.ireturn, 1) := ge_ireturn (by decide +kernel)
def f_X0_read (a0 : Nat) (a1 : Nat) (a2 : Int32) (μ : gm_M) : Option (Option Value × gm_M) := gm_pR μ [5] a0 7 a1 (fun m1 => gm_al m1 1 a1 (fun v2 => gm_pI m1 [5] a0 8 (if v2 < a2 then v2 else a2) (fun m4 => gm_loop (fun (s5 : Int32 × gm_M) => if (10 : Int32) ≤ s5.1 then gm_gI s5.2 [5] a0 9 (fun v6 => some (Sum.inr (some (.int v6), s5.2))) else gm_j (fun (s7 : gm_M) => if gm_tag s7 a0 = 5 then gm_bI (f_X0_readClause a0 s7) (fun x10 m9 => if x10 ≠ 0 then gm_gI m9 [5] a0 9 (fun v11 => gm_gI m9 [5] a0 8 (fun v12 => if v11 < v12 then some (Sum.inl ((s5.1 + (1 : Int32)), m9)) else some (Sum.inr (some (.int (-1 : Int32)), m9)))) else gm_gI m9 [5] a0 9 (fun v13 => some (Sum.inr (some (.int v13), m9)))) else none) (fun j8 => if s5.1 ≤ 0 then j8 s5.2 else if gm_tag s5.2 a0 = 5 then gm_bI (f_X0_take a0 (59 : Int32) s5.2) (fun x15 m14 => if x15 ≠ 0 then j8 m14 else gm_gI m14 [5] a0 9 (fun v16 => some (Sum.inr (some (.int v16), m14)))) else none)) 5000 ((0 : Int32), m4))))
set_option maxHeartbeats 4000000 in
theorem c_X0_read (a0 : Nat) (a1 : Nat) (a2 : Int32) (μ : gm_M) : gm_Call ({ cls := "GumBubble$Afternoon", name := "read", desc := "([II)I" } : Jvm.MethodName) prog_2_method_2_code 4 (some .int) 72 0 0 [.ref a0, .ref a1, .int a2] μ (f_X0_read a0 a1 a2 μ) := by
  refine gm_start PN_0 (Nat.le_of_ble_eq_true rfl) (fun res μe => ?_)
  unfold f_X0_read
  show gm_A "GumBubble$Afternoon" (gm_nm "read") _ _ _ _ _ _ _ _ _ 0 [(0, .ref a0), (1, .ref a1), (2, .int a2)] [] _ _
  refine gm_aload_n d_X0_read_0 rfl 0 rfl ?_
  refine gm_aload_n d_X0_read_1 rfl 1 rfl ?_
  refine gm_putR F_0_tape (Or.inl rfl) gw_135 d_X0_read_2 (fun m1 _ => ?_)
  refine gm_aload_n d_X0_read_5 rfl 0 rfl ?_
  refine gm_iload_n d_X0_read_6 rfl 2 rfl ?_
  refine gm_aload_n d_X0_read_7 rfl 1 rfl ?_
  refine gm_alen (Or.inl rfl) d_X0_read_8 (fun v2 _ => ?_)
  refine gm_min gw_309 gw_310 gw_3 (show _ from gw_311) (Nat.le_of_ble_eq_true rfl) (Nat.le_of_ble_eq_true rfl) (Nat.le_of_ble_eq_true rfl) (Nat.le_of_ble_eq_true rfl) rfl d_X0_read_9 ?_
  refine gm_putI F_0_size (Or.inl rfl) gw_136 d_X0_read_12 (fun m4 _ => ?_)
  refine gm_iconst (v := 0) d_X0_read_15 (by decide) ?_
  refine gm_istore_n (L' := [(3, .int (0 : Int32)), (0, .ref a0), (1, .ref a1), (2, .int a2)]) d_X0_read_16 rfl (Nat.le_of_ble_eq_true rfl) rfl ?_
  refine gm_sub (L' := [(0, .ref a0), (1, .ref a1), (2, .int a2), (3, .int (0 : Int32))]) [1, 2, 3, 0] rfl ?_
  refine gm_lp (S := Int32 × gm_M) (fun _ => 0) (fun _ => 0) (fun s5 => s5.2) (fun s5 => [(0, .ref a0), (1, .ref a1), (2, .int a2), (3, .int s5.1)]) (fun _ => []) (fun s5 => ?_) 5000 ((0 : Int32), m4)
  refine gm_iload_n d_X0_read_17 rfl 3 rfl ?_
  refine gm_bipush (v := 10) d_X0_read_18 (by decide) ?_
  refine gm_icmp_ge (tgt := 72) d_X0_read_20 (by decide) (fun h20 => ?_) (fun h20 => ?_)
  ·
    refine gm_aload_n d_X0_read_72 rfl 0 rfl ?_
    refine gm_getI F_0_at gw_137 d_X0_read_73 (fun v6 _ => ?_)
    exact gm_iret rfl d_X0_read_76 (Nat.le_of_ble_eq_true rfl) (Nat.le_of_ble_eq_true rfl) (fun h => h)
  ·
    refine gm_iload_n d_X0_read_23 rfl 3 rfl ?_
    refine gm_join (S := gm_M) (pj := 41) (kj := 0) (nj := 0) (fun s7 => s7) (fun s7 => [(0, .ref a0), (1, .ref a1), (2, .int a2), (3, .int s5.1)]) (fun s7 => []) (fun s7 => ?_) (fun j8 hj8 => ?_)
    ·
      refine gm_aload_n d_X0_read_41 rfl 0 rfl ?_
      refine gm_grd (fun g42 => ?_)
      refine gm_callV (k0 := 0) [] (c_X0_readClause a0 s7) g42 rfl B_X0_readClause gw_320 gs_2 rfl rfl rfl d_X0_read_42 (gm_kI (fun x10 m9 => ?_))
      refine gm_if_ne (tgt := 53) d_X0_read_45 (by decide) (fun h45 => ?_) (fun h45 => ?_)
      ·
        refine gm_aload_n d_X0_read_53 rfl 0 rfl ?_
        refine gm_getI F_0_at gw_137 d_X0_read_54 (fun v11 _ => ?_)
        refine gm_aload_n d_X0_read_57 rfl 0 rfl ?_
        refine gm_getI F_0_size gw_136 d_X0_read_58 (fun v12 _ => ?_)
        refine gm_icmp_lt (tgt := 66) d_X0_read_61 (by decide) (fun h61 => ?_) (fun h61 => ?_)
        ·
          refine gm_iinc (v := s5.1 + (1 : Int32)) (L' := [(3, .int (s5.1 + (1 : Int32))), (0, .ref a0), (1, .ref a1), (2, .int a2)]) d_X0_read_66 3 rfl rfl (Nat.le_of_ble_eq_true rfl) rfl ?_
          refine gm_goto (tgt := 17) d_X0_read_69 (by decide) ?_
          refine gm_sub (L' := [(0, .ref a0), (1, .ref a1), (2, .int a2), (3, .int (s5.1 + (1 : Int32)))]) [1, 2, 3, 0] rfl ?_
          exact gm_back (fun h => h)
        ·
          refine gm_iconst (v := -1) d_X0_read_64 (by decide) ?_
          exact gm_iret rfl d_X0_read_65 (Nat.le_of_ble_eq_true rfl) (Nat.le_of_ble_eq_true rfl) (fun h => h)
      ·
        refine gm_aload_n d_X0_read_48 rfl 0 rfl ?_
        refine gm_getI F_0_at gw_137 d_X0_read_49 (fun v13 _ => ?_)
        exact gm_iret rfl d_X0_read_52 (Nat.le_of_ble_eq_true rfl) (Nat.le_of_ble_eq_true rfl) (fun h => h)
    ·
      refine gm_if_le (tgt := 41) d_X0_read_24 (by decide) (fun h24 => ?_) (fun h24 => ?_)
      ·
        exact hj8 s5.2
      ·
        refine gm_aload_n d_X0_read_27 rfl 0 rfl ?_
        refine gm_bipush (v := 59) d_X0_read_28 (by decide) ?_
        refine gm_grd (fun g30 => ?_)
        refine gm_callV (k0 := 0) [.int (59 : Int32)] (c_X0_take a0 (59 : Int32) s5.2) g30 rfl B_X0_take gw_312 gs_0 rfl rfl rfl d_X0_read_30 (gm_kI (fun x15 m14 => ?_))
        refine gm_if_ne (tgt := 41) d_X0_read_33 (by decide) (fun h33 => ?_) (fun h33 => ?_)
        ·
          exact hj8 m14
        ·
          refine gm_aload_n d_X0_read_36 rfl 0 rfl ?_
          refine gm_getI F_0_at gw_137 d_X0_read_37 (fun v16 _ => ?_)
          exact gm_iret rfl d_X0_read_40 (Nat.le_of_ble_eq_true rfl) (Nat.le_of_ble_eq_true rfl) (fun h => h)
theorem d_X0_stretchOf_0 : decode prog_2_method_3_code 0 = .ok (.bipush 30, 2) := ge_bipush (by decide +kernel)
theorem d_X0_stretchOf_2 : decode prog_2_method_3_code 2 = .ok (.istore_n 3, 1) := ge_istore_n_3 (by decide +kernel)
theorem d_X0_stretchOf_3 : decode prog_2_method_3_code 3 = .ok (.iconst 0, 1) := ge_iconst_0 (by decide +kernel)
theorem d_X0_stretchOf_4 : decode prog_2_method_3_code 4 = .ok (.istore 4, 2) := ge_istore (by decide +kernel)
theorem d_X0_stretchOf_6 : decode prog_2_method_3_code 6 = .ok (.iconst 0, 1) := ge_iconst_0 (by decide +kernel)
theorem d_X0_stretchOf_7 : decode prog_2_method_3_code 7 = .ok (.istore 5, 2) := ge_istore (by decide +kernel)
theorem d_X0_stretchOf_9 : decode prog_2_method_3_code 9 = .ok (.iload 5, 2) := ge_iload (by decide +kernel)
theorem d_X0_stretchOf_11 : decode prog_2_method_3_code 11 = .ok (.aload_n 0, 1) := ge_aload_n_0 (by decide +kernel)
theorem d_X0_stretchOf_12 : decode prog_2_method_3_code 12 = .ok (.getfield 49, 3) := ge_getfield (by decide +kernel)
theorem d_X0_stretchOf_15 : decode prog_2_method_3_code 15 = .ok (.if_icmp .ge 46, 3) := ge_if_icmp_ge (by decide +kernel)
theorem d_X0_stretchOf_18 : decode prog_2_method_3_code 18 = .ok (.aload_n 0, 1) := ge_aload_n_0 (by decide +kernel)
theorem d_X0_stretchOf_19 : decode prog_2_method_3_code 19 = .ok (.iload 4, 2) := ge_iload (by decide +kernel)
theorem d_X0_stretchOf_21 : decode prog_2_method_3_code 21 = .ok (.aload_n 0, 1) := ge_aload_n_0 (by decide +kernel)
theorem d_X0_stretchOf_22 : decode prog_2_method_3_code 22 = .ok (.getfield 20, 3) := ge_getfield (by decide +kernel)
theorem d_X0_stretchOf_25 : decode prog_2_method_3_code 25 = .ok (.iload 5, 2) := ge_iload (by decide +kernel)
theorem d_X0_stretchOf_27 : decode prog_2_method_3_code 27 = .ok (.iaload, 1) := ge_iaload (by decide +kernel)
theorem d_X0_stretchOf_28 : decode prog_2_method_3_code 28 = .ok (.aload_n 1, 1) := ge_aload_n_1 (by decide +kernel)
theorem d_X0_stretchOf_29 : decode prog_2_method_3_code 29 = .ok (.iload_n 2, 1) := ge_iload_n_2 (by decide +kernel)
theorem d_X0_stretchOf_30 : decode prog_2_method_3_code 30 = .ok (.invokevirtual 52, 3) := ge_invokevirtual (by decide +kernel)
theorem d_X0_stretchOf_33 : decode prog_2_method_3_code 33 = .ok (.ifCond .eq 13, 3) := ge_ifCond_eq (by decide +kernel)
theorem d_X0_stretchOf_36 : decode prog_2_method_3_code 36 = .ok (.iload_n 3, 1) := ge_iload_n_3 (by decide +kernel)
theorem d_X0_stretchOf_37 : decode prog_2_method_3_code 37 = .ok (.aload_n 0, 1) := ge_aload_n_0 (by decide +kernel)
theorem d_X0_stretchOf_38 : decode prog_2_method_3_code 38 = .ok (.getfield 16, 3) := ge_getfield (by decide +kernel)
theorem d_X0_stretchOf_41 : decode prog_2_method_3_code 41 = .ok (.iload 5, 2) := ge_iload (by decide +kernel)
theorem d_X0_stretchOf_43 : decode prog_2_method_3_code 43 = .ok (.iaload, 1) := ge_iaload (by decide +kernel)
theorem d_X0_stretchOf_44 : decode prog_2_method_3_code 44 = .ok (.iadd, 1) := ge_iadd (by decide +kernel)
theorem d_X0_stretchOf_45 : decode prog_2_method_3_code 45 = .ok (.istore_n 3, 1) := ge_istore_n_3 (by decide +kernel)
theorem d_X0_stretchOf_46 : decode prog_2_method_3_code 46 = .ok (.aload_n 0, 1) := ge_aload_n_0 (by decide +kernel)
theorem d_X0_stretchOf_47 : decode prog_2_method_3_code 47 = .ok (.getfield 20, 3) := ge_getfield (by decide +kernel)
theorem d_X0_stretchOf_50 : decode prog_2_method_3_code 50 = .ok (.iload 5, 2) := ge_iload (by decide +kernel)
theorem d_X0_stretchOf_52 : decode prog_2_method_3_code 52 = .ok (.iaload, 1) := ge_iaload (by decide +kernel)
theorem d_X0_stretchOf_53 : decode prog_2_method_3_code 53 = .ok (.istore 4, 2) := ge_istore (by decide +kernel)
theorem d_X0_stretchOf_55 : decode prog_2_method_3_code 55 = .ok (.iinc 5 1, 3) := ge_iinc (by decide +kernel)
theorem d_X0_stretchOf_58 : decode prog_2_method_3_code 58 = .ok (.goto (-49), 3) := ge_goto (by decide +kernel)
theorem d_X0_stretchOf_61 : decode prog_2_method_3_code 61 = .ok (.iconst 1, 1) := ge_iconst_1 (by decide +kernel)
theorem d_X0_stretchOf_62 : decode prog_2_method_3_code 62 = .ok (.iload_n 3, 1) := ge_iload_n_3 (by decide +kernel)
theorem d_X0_stretchOf_63 : decode prog_2_method_3_code 63 = .ok (.invokestatic 56, 3) := ge_invokestatic (by decide +kernel)
theorem d_X0_stretchOf_66 : decode prog_2_method_3_code 66 = .ok (.ireturn, 1) := ge_ireturn (by decide +kernel)
def f_X0_stretchOf (a0 : Nat) (a1 : Nat) (a2 : Int32) (μ : gm_M) : Option (Option Value × gm_M) := gm_loop (fun (s1 : Int32 × Int32 × Int32 × gm_M) => gm_gI s1.2.2.2 [5] a0 2 (fun v2 => if v2 ≤ s1.2.2.1 then some (Sum.inr (some (.int (if (1 : Int32) < s1.1 then s1.1 else (1 : Int32))), s1.2.2.2)) else gm_gR s1.2.2.2 [5] a0 4 (fun v4 => gm_aI s1.2.2.2 v4 s1.2.2.1 (fun v5 => if gm_tag s1.2.2.2 a0 = 5 then gm_bI (f_X0_isSo a0 s1.2.1 v5 a1 a2 s1.2.2.2) (fun x7 m6 => gm_j (fun (s8 : Int32) => gm_gR m6 [5] a0 4 (fun v10 => gm_aI m6 v10 s1.2.2.1 (fun v11 => some (Sum.inl (s8, v11, (s1.2.2.1 + (1 : Int32)), m6))))) (fun j9 => if x7 = 0 then j9 s1.1 else gm_gR m6 [5] a0 3 (fun v12 => gm_aI m6 v12 s1.2.2.1 (fun v13 => j9 (s1.1 + v13))))) else none)))) 5000 ((30 : Int32), (0 : Int32), (0 : Int32), μ)
set_option maxHeartbeats 4000000 in
theorem c_X0_stretchOf (a0 : Nat) (a1 : Nat) (a2 : Int32) (μ : gm_M) : gm_Call ({ cls := "GumBubble$Afternoon", name := "stretchOf", desc := "(LGumBubble$Child;I)I" } : Jvm.MethodName) prog_2_method_3_code 6 (some .int) 2 0 0 [.ref a0, .ref a1, .int a2] μ (f_X0_stretchOf a0 a1 a2 μ) := by
  refine gm_start PN_0 (Nat.le_of_ble_eq_true rfl) (fun res μe => ?_)
  unfold f_X0_stretchOf
  show gm_A "GumBubble$Afternoon" (gm_nm "stretchOf") _ _ _ _ _ _ _ _ _ 0 [(0, .ref a0), (1, .ref a1), (2, .int a2)] [] _ _
  refine gm_bipush (v := 30) d_X0_stretchOf_0 (by decide) ?_
  refine gm_istore_n (L' := [(3, .int (30 : Int32)), (0, .ref a0), (1, .ref a1), (2, .int a2)]) d_X0_stretchOf_2 rfl (Nat.le_of_ble_eq_true rfl) rfl ?_
  refine gm_iconst (v := 0) d_X0_stretchOf_3 (by decide) ?_
  refine gm_istore (L' := [(4, .int (0 : Int32)), (3, .int (30 : Int32)), (0, .ref a0), (1, .ref a1), (2, .int a2)]) d_X0_stretchOf_4 (Nat.le_of_ble_eq_true rfl) rfl ?_
  refine gm_iconst (v := 0) d_X0_stretchOf_6 (by decide) ?_
  refine gm_istore (L' := [(5, .int (0 : Int32)), (4, .int (0 : Int32)), (3, .int (30 : Int32)), (0, .ref a0), (1, .ref a1), (2, .int a2)]) d_X0_stretchOf_7 (Nat.le_of_ble_eq_true rfl) rfl ?_
  refine gm_sub (L' := [(0, .ref a0), (1, .ref a1), (2, .int a2), (3, .int (30 : Int32)), (4, .int (0 : Int32)), (5, .int (0 : Int32))]) [3, 4, 5, 2, 1, 0] rfl ?_
  refine gm_lp (S := Int32 × Int32 × Int32 × gm_M) (fun _ => 0) (fun _ => 0) (fun s1 => s1.2.2.2) (fun s1 => [(0, .ref a0), (1, .ref a1), (2, .int a2), (3, .int s1.1), (4, .int s1.2.1), (5, .int s1.2.2.1)]) (fun _ => []) (fun s1 => ?_) 5000 ((30 : Int32), (0 : Int32), (0 : Int32), μ)
  refine gm_iload d_X0_stretchOf_9 5 rfl ?_
  refine gm_aload_n d_X0_stretchOf_11 rfl 0 rfl ?_
  refine gm_getI F_0_changes gw_130 d_X0_stretchOf_12 (fun v2 _ => ?_)
  refine gm_icmp_ge (tgt := 61) d_X0_stretchOf_15 (by decide) (fun h15 => ?_) (fun h15 => ?_)
  ·
    refine gm_iconst (v := 1) d_X0_stretchOf_61 (by decide) ?_
    refine gm_iload_n d_X0_stretchOf_62 rfl 3 rfl ?_
    refine gm_max gw_493 gw_38 gw_3 (show _ from gw_39) (Nat.le_of_ble_eq_true rfl) (Nat.le_of_ble_eq_true rfl) (Nat.le_of_ble_eq_true rfl) (Nat.le_of_ble_eq_true rfl) rfl d_X0_stretchOf_63 ?_
    exact gm_iret rfl d_X0_stretchOf_66 (Nat.le_of_ble_eq_true rfl) (Nat.le_of_ble_eq_true rfl) (fun h => h)
  ·
    refine gm_aload_n d_X0_stretchOf_18 rfl 0 rfl ?_
    refine gm_iload d_X0_stretchOf_19 4 rfl ?_
    refine gm_aload_n d_X0_stretchOf_21 rfl 0 rfl ?_
    refine gm_getR F_0_ends gw_132 d_X0_stretchOf_22 (fun v4 _ => ?_)
    refine gm_iload d_X0_stretchOf_25 5 rfl ?_
    refine gm_iald d_X0_stretchOf_27 (fun v5 _ => ?_)
    refine gm_aload_n d_X0_stretchOf_28 rfl 1 rfl ?_
    refine gm_iload_n d_X0_stretchOf_29 rfl 2 rfl ?_
    refine gm_grd (fun g30 => ?_)
    refine gm_callV (k0 := 0) [.int s1.2.1, .int v5, .ref a1, .int a2] (c_X0_isSo a0 s1.2.1 v5 a1 a2 s1.2.2.2) g30 rfl B_X0_isSo gw_486 gs_12 rfl rfl rfl d_X0_stretchOf_30 (gm_kI (fun x7 m6 => ?_))
    refine gm_join (S := Int32) (pj := 46) (kj := 0) (nj := 0) (fun s8 => m6) (fun s8 => [(0, .ref a0), (1, .ref a1), (2, .int a2), (3, .int s8), (4, .int s1.2.1), (5, .int s1.2.2.1)]) (fun s8 => []) (fun s8 => ?_) (fun j9 hj9 => ?_)
    ·
      refine gm_aload_n d_X0_stretchOf_46 rfl 0 rfl ?_
      refine gm_getR F_0_ends gw_132 d_X0_stretchOf_47 (fun v10 _ => ?_)
      refine gm_iload d_X0_stretchOf_50 5 rfl ?_
      refine gm_iald d_X0_stretchOf_52 (fun v11 _ => ?_)
      refine gm_istore (L' := [(4, .int v11), (0, .ref a0), (1, .ref a1), (2, .int a2), (3, .int s8), (5, .int s1.2.2.1)]) d_X0_stretchOf_53 (Nat.le_of_ble_eq_true rfl) rfl ?_
      refine gm_iinc (v := s1.2.2.1 + (1 : Int32)) (L' := [(5, .int (s1.2.2.1 + (1 : Int32))), (4, .int v11), (0, .ref a0), (1, .ref a1), (2, .int a2), (3, .int s8)]) d_X0_stretchOf_55 5 rfl rfl (Nat.le_of_ble_eq_true rfl) rfl ?_
      refine gm_goto (tgt := 9) d_X0_stretchOf_58 (by decide) ?_
      refine gm_sub (L' := [(0, .ref a0), (1, .ref a1), (2, .int a2), (3, .int s8), (4, .int v11), (5, .int (s1.2.2.1 + (1 : Int32)))]) [2, 3, 4, 5, 1, 0] rfl ?_
      exact gm_back (fun h => h)
    ·
      refine gm_if_eq (tgt := 46) d_X0_stretchOf_33 (by decide) (fun h33 => ?_) (fun h33 => ?_)
      ·
        exact hj9 s1.1
      ·
        refine gm_iload_n d_X0_stretchOf_36 rfl 3 rfl ?_
        refine gm_aload_n d_X0_stretchOf_37 rfl 0 rfl ?_
        refine gm_getR F_0_amounts gw_131 d_X0_stretchOf_38 (fun v12 _ => ?_)
        refine gm_iload d_X0_stretchOf_41 5 rfl ?_
        refine gm_iald d_X0_stretchOf_43 (fun v13 _ => ?_)
        refine gm_iadd d_X0_stretchOf_44 ?_
        refine gm_istore_n (L' := [(3, .int (s1.1 + v13)), (0, .ref a0), (1, .ref a1), (2, .int a2), (4, .int s1.2.1), (5, .int s1.2.2.1)]) d_X0_stretchOf_45 rfl (Nat.le_of_ble_eq_true rfl) rfl ?_
        refine gm_sub (L' := [(0, .ref a0), (1, .ref a1), (2, .int a2), (3, .int (s1.1 + v13)), (4, .int s1.2.1), (5, .int s1.2.2.1)]) [1, 2, 3, 0, 4, 5] rfl ?_
        exact hj9 (s1.1 + v13)
theorem d_X7_add_0 : decode prog_9_method_5_code 0 = .ok (.aload_n 0, 1) := ge_aload_n_0 (by decide +kernel)
theorem d_X7_add_1 : decode prog_9_method_5_code 1 = .ok (.getfield 23, 3) := ge_getfield (by decide +kernel)
theorem d_X7_add_4 : decode prog_9_method_5_code 4 = .ok (.aload_n 0, 1) := ge_aload_n_0 (by decide +kernel)
theorem d_X7_add_5 : decode prog_9_method_5_code 5 = .ok (.getfield 7, 3) := ge_getfield (by decide +kernel)
theorem d_X7_add_8 : decode prog_9_method_5_code 8 = .ok (.if_icmp .ge 43, 3) := ge_if_icmp_ge (by decide +kernel)
theorem d_X7_add_11 : decode prog_9_method_5_code 11 = .ok (.aload_n 0, 1) := ge_aload_n_0 (by decide +kernel)
theorem d_X7_add_12 : decode prog_9_method_5_code 12 = .ok (.getfield 19, 3) := ge_getfield (by decide +kernel)
theorem d_X7_add_15 : decode prog_9_method_5_code 15 = .ok (.aload_n 0, 1) := ge_aload_n_0 (by decide +kernel)
theorem d_X7_add_16 : decode prog_9_method_5_code 16 = .ok (.getfield 23, 3) := ge_getfield (by decide +kernel)
theorem d_X7_add_19 : decode prog_9_method_5_code 19 = .ok (.iconst 3, 1) := ge_iconst_3 (by decide +kernel)
theorem d_X7_add_20 : decode prog_9_method_5_code 20 = .ok (.imul, 1) := ge_imul (by decide +kernel)
theorem d_X7_add_21 : decode prog_9_method_5_code 21 = .ok (.iload_n 1, 1) := ge_iload_n_1 (by decide +kernel)
theorem d_X7_add_22 : decode prog_9_method_5_code 22 = .ok (.iastore, 1) := ge_iastore (by decide +kernel)
theorem d_X7_add_23 : decode prog_9_method_5_code 23 = .ok (.aload_n 0, 1) := ge_aload_n_0 (by decide +kernel)
theorem d_X7_add_24 : decode prog_9_method_5_code 24 = .ok (.getfield 19, 3) := ge_getfield (by decide +kernel)
theorem d_X7_add_27 : decode prog_9_method_5_code 27 = .ok (.aload_n 0, 1) := ge_aload_n_0 (by decide +kernel)
theorem d_X7_add_28 : decode prog_9_method_5_code 28 = .ok (.getfield 23, 3) := ge_getfield (by decide +kernel)
theorem d_X7_add_31 : decode prog_9_method_5_code 31 = .ok (.iconst 3, 1) := ge_iconst_3 (by decide +kernel)
theorem d_X7_add_32 : decode prog_9_method_5_code 32 = .ok (.imul, 1) := ge_imul (by decide +kernel)
theorem d_X7_add_33 : decode prog_9_method_5_code 33 = .ok (.iconst 1, 1) := ge_iconst_1 (by decide +kernel)
theorem d_X7_add_34 : decode prog_9_method_5_code 34 = .ok (.iadd, 1) := ge_iadd (by decide +kernel)
theorem d_X7_add_35 : decode prog_9_method_5_code 35 = .ok (.iload_n 2, 1) := ge_iload_n_2 (by decide +kernel)
theorem d_X7_add_36 : decode prog_9_method_5_code 36 = .ok (.iastore, 1) := ge_iastore (by decide +kernel)
theorem d_X7_add_37 : decode prog_9_method_5_code 37 = .ok (.aload_n 0, 1) := ge_aload_n_0 (by decide +kernel)
theorem d_X7_add_38 : decode prog_9_method_5_code 38 = .ok (.getfield 19, 3) := ge_getfield (by decide +kernel)
theorem d_X7_add_41 : decode prog_9_method_5_code 41 = .ok (.aload_n 0, 1) := ge_aload_n_0 (by decide +kernel)
theorem d_X7_add_42 : decode prog_9_method_5_code 42 = .ok (.getfield 23, 3) := ge_getfield (by decide +kernel)
theorem d_X7_add_45 : decode prog_9_method_5_code 45 = .ok (.iconst 3, 1) := ge_iconst_3 (by decide +kernel)
theorem d_X7_add_46 : decode prog_9_method_5_code 46 = .ok (.imul, 1) := ge_imul (by decide +kernel)
theorem d_X7_add_47 : decode prog_9_method_5_code 47 = .ok (.iconst 2, 1) := ge_iconst_2 (by decide +kernel)
theorem d_X7_add_48 : decode prog_9_method_5_code 48 = .ok (.iadd, 1) := ge_iadd (by decide +kernel)
theorem d_X7_add_49 : decode prog_9_method_5_code 49 = .ok (.iload_n 3, 1) := ge_iload_n_3 (by decide +kernel)
theorem d_X7_add_50 : decode prog_9_method_5_code 50 = .ok (.iastore, 1) := ge_iastore (by decide +kernel)
theorem d_X7_add_51 : decode prog_9_method_5_code 51 = .ok (.aload_n 0, 1) := ge_aload_n_0 (by decide +kernel)
theorem d_X7_add_52 : decode prog_9_method_5_code 52 = .ok (.dup, 1) := ge_dup (by decide +kernel)
theorem d_X7_add_53 : decode prog_9_method_5_code 53 = .ok (.getfield 23, 3) := ge_getfield (by decide +kernel)
theorem d_X7_add_56 : decode prog_9_method_5_code 56 = .ok (.iconst 1, 1) := ge_iconst_1 (by decide +kernel)
theorem d_X7_add_57 : decode prog_9_method_5_code 57 = .ok (.iadd, 1) := ge_iadd (by decide +kernel)
theorem d_X7_add_58 : decode prog_9_method_5_code 58 = .ok (.putfield 23, 3) := ge_putfield (by decide +kernel)
theorem d_X7_add_61 : decode prog_9_method_5_code 61 = .ok (.aload_n 0, 1) := ge_aload_n_0 (by decide +kernel)
theorem d_X7_add_62 : decode prog_9_method_5_code 62 = .ok (.getfield 23, 3) := ge_getfield (by decide +kernel)
theorem d_X7_add_65 : decode prog_9_method_5_code 65 = .ok (.ireturn, 1) := ge_ireturn (by decide +kernel)
def f_X7_add (a0 : Nat) (a1 : Int32) (a2 : Int32) (a3 : Int32) (μ : gm_M) : Option (Option Value × gm_M) := gm_gI μ [12] a0 2 (fun v1 => gm_gI μ [12] a0 0 (fun v2 => gm_j (fun (s3 : gm_M) => gm_gI s3 [12] a0 2 (fun v5 => gm_pI s3 [12] a0 2 (v5 + (1 : Int32)) (fun m6 => gm_gI m6 [12] a0 2 (fun v7 => some (some (.int v7), m6))))) (fun j4 => if v2 ≤ v1 then j4 μ else gm_gR μ [12] a0 1 (fun v8 => gm_gI μ [12] a0 2 (fun v9 => gm_sI μ v8 (v9 * (3 : Int32)) a1 (fun m10 => gm_gR m10 [12] a0 1 (fun v11 => gm_gI m10 [12] a0 2 (fun v12 => gm_sI m10 v11 ((v12 * (3 : Int32)) + (1 : Int32)) a2 (fun m13 => gm_gR m13 [12] a0 1 (fun v14 => gm_gI m13 [12] a0 2 (fun v15 => gm_sI m13 v14 ((v15 * (3 : Int32)) + (2 : Int32)) a3 (fun m16 => j4 m16))))))))))))
set_option maxHeartbeats 4000000 in
theorem c_X7_add (a0 : Nat) (a1 : Int32) (a2 : Int32) (a3 : Int32) (μ : gm_M) : gm_Call ({ cls := "GumBubble$Rows", name := "add", desc := "(III)I" } : Jvm.MethodName) prog_9_method_5_code 4 (some .int) 0 0 0 [.ref a0, .int a1, .int a2, .int a3] μ (f_X7_add a0 a1 a2 a3 μ) := by
  refine gm_start PN_7 (Nat.le_of_ble_eq_true rfl) (fun res μe => ?_)
  unfold f_X7_add
  show gm_A "GumBubble$Rows" (gm_nm "add") _ _ _ _ _ _ _ _ _ 0 [(0, .ref a0), (1, .int a1), (2, .int a2), (3, .int a3)] [] _ _
  refine gm_aload_n d_X7_add_0 rfl 0 rfl ?_
  refine gm_getI F_7_count gw_42 d_X7_add_1 (fun v1 _ => ?_)
  refine gm_aload_n d_X7_add_4 rfl 0 rfl ?_
  refine gm_getI F_7_limit gw_40 d_X7_add_5 (fun v2 _ => ?_)
  refine gm_join (S := gm_M) (pj := 51) (kj := 0) (nj := 0) (fun s3 => s3) (fun s3 => [(0, .ref a0), (1, .int a1), (2, .int a2), (3, .int a3)]) (fun s3 => []) (fun s3 => ?_) (fun j4 hj4 => ?_)
  ·
    refine gm_aload_n d_X7_add_51 rfl 0 rfl ?_
    refine gm_dup d_X7_add_52 rfl ?_
    refine gm_getI F_7_count gw_42 d_X7_add_53 (fun v5 _ => ?_)
    refine gm_iconst (v := 1) d_X7_add_56 (by decide) ?_
    refine gm_iadd d_X7_add_57 ?_
    refine gm_putI F_7_count (Or.inl rfl) gw_42 d_X7_add_58 (fun m6 _ => ?_)
    refine gm_aload_n d_X7_add_61 rfl 0 rfl ?_
    refine gm_getI F_7_count gw_42 d_X7_add_62 (fun v7 _ => ?_)
    exact gm_iret rfl d_X7_add_65 (Nat.le_of_ble_eq_true rfl) (Nat.le_of_ble_eq_true rfl) (fun h => h)
  ·
    refine gm_icmp_ge (tgt := 51) d_X7_add_8 (by decide) (fun h8 => ?_) (fun h8 => ?_)
    ·
      exact hj4 μ
    ·
      refine gm_aload_n d_X7_add_11 rfl 0 rfl ?_
      refine gm_getR F_7_cells gw_41 d_X7_add_12 (fun v8 _ => ?_)
      refine gm_aload_n d_X7_add_15 rfl 0 rfl ?_
      refine gm_getI F_7_count gw_42 d_X7_add_16 (fun v9 _ => ?_)
      refine gm_iconst (v := 3) d_X7_add_19 (by decide) ?_
      refine gm_imul d_X7_add_20 ?_
      refine gm_iload_n d_X7_add_21 rfl 1 rfl ?_
      refine gm_iast d_X7_add_22 (fun m10 _ => ?_)
      refine gm_aload_n d_X7_add_23 rfl 0 rfl ?_
      refine gm_getR F_7_cells gw_41 d_X7_add_24 (fun v11 _ => ?_)
      refine gm_aload_n d_X7_add_27 rfl 0 rfl ?_
      refine gm_getI F_7_count gw_42 d_X7_add_28 (fun v12 _ => ?_)
      refine gm_iconst (v := 3) d_X7_add_31 (by decide) ?_
      refine gm_imul d_X7_add_32 ?_
      refine gm_iconst (v := 1) d_X7_add_33 (by decide) ?_
      refine gm_iadd d_X7_add_34 ?_
      refine gm_iload_n d_X7_add_35 rfl 2 rfl ?_
      refine gm_iast d_X7_add_36 (fun m13 _ => ?_)
      refine gm_aload_n d_X7_add_37 rfl 0 rfl ?_
      refine gm_getR F_7_cells gw_41 d_X7_add_38 (fun v14 _ => ?_)
      refine gm_aload_n d_X7_add_41 rfl 0 rfl ?_
      refine gm_getI F_7_count gw_42 d_X7_add_42 (fun v15 _ => ?_)
      refine gm_iconst (v := 3) d_X7_add_45 (by decide) ?_
      refine gm_imul d_X7_add_46 ?_
      refine gm_iconst (v := 2) d_X7_add_47 (by decide) ?_
      refine gm_iadd d_X7_add_48 ?_
      refine gm_iload_n d_X7_add_49 rfl 3 rfl ?_
      refine gm_iast d_X7_add_50 (fun m16 _ => ?_)
      exact hj4 m16
theorem d_X5_chews_0 : decode prog_7_method_5_code 0 = .ok (.aload_n 1, 1) := ge_aload_n_1 (by decide +kernel)
theorem d_X5_chews_1 : decode prog_7_method_5_code 1 = .ok (.iconst 1, 1) := ge_iconst_1 (by decide +kernel)
theorem d_X5_chews_2 : decode prog_7_method_5_code 2 = .ok (.iconst 0, 1) := ge_iconst_0 (by decide +kernel)
theorem d_X5_chews_3 : decode prog_7_method_5_code 3 = .ok (.iconst 0, 1) := ge_iconst_0 (by decide +kernel)
theorem d_X5_chews_4 : decode prog_7_method_5_code 4 = .ok (.invokevirtual 21, 3) := ge_invokevirtual (by decide +kernel)
theorem d_X5_chews_7 : decode prog_7_method_5_code 7 = .ok (.pop, 1) := ge_pop (by decide +kernel)
theorem d_X5_chews_8 : decode prog_7_method_5_code 8 = .ok (.iload_n 3, 1) := ge_iload_n_3 (by decide +kernel)
theorem d_X5_chews_9 : decode prog_7_method_5_code 9 = .ok (.aload_n 2, 1) := ge_aload_n_2 (by decide +kernel)
theorem d_X5_chews_10 : decode prog_7_method_5_code 10 = .ok (.getfield 27, 3) := ge_getfield (by decide +kernel)
theorem d_X5_chews_13 : decode prog_7_method_5_code 13 = .ok (.iadd, 1) := ge_iadd (by decide +kernel)
theorem d_X5_chews_14 : decode prog_7_method_5_code 14 = .ok (.ireturn, 1) := ge_ireturn (by decide +kernel)
def f_X5_chews (a0 : Nat) (a1 : Nat) (a2 : Nat) (a3 : Int32) (μ : gm_M) : Option (Option Value × gm_M) := if gm_tag μ a1 = 12 then gm_bI (f_X7_add a1 (1 : Int32) (0 : Int32) (0 : Int32) μ) (fun x2 m1 => gm_gI m1 [7] a2 0 (fun v3 => some (some (.int (a3 + v3)), m1))) else none
set_option maxHeartbeats 4000000 in
theorem c_X5_chews (a0 : Nat) (a1 : Nat) (a2 : Nat) (a3 : Int32) (μ : gm_M) : gm_Call ({ cls := "GumBubble$Plain", name := "chews", desc := "(LGumBubble$Rows;LGumBubble$Child;I)I" } : Jvm.MethodName) prog_7_method_5_code 4 (some .int) 1 0 0 [.ref a0, .ref a1, .ref a2, .int a3] μ (f_X5_chews a0 a1 a2 a3 μ) := by
  refine gm_start PN_5 (Nat.le_of_ble_eq_true rfl) (fun res μe => ?_)
  unfold f_X5_chews
  show gm_A "GumBubble$Plain" (gm_nm "chews") _ _ _ _ _ _ _ _ _ 0 [(0, .ref a0), (1, .ref a1), (2, .ref a2), (3, .int a3)] [] _ _
  refine gm_aload_n d_X5_chews_0 rfl 1 rfl ?_
  refine gm_iconst (v := 1) d_X5_chews_1 (by decide) ?_
  refine gm_iconst (v := 0) d_X5_chews_2 (by decide) ?_
  refine gm_iconst (v := 0) d_X5_chews_3 (by decide) ?_
  refine gm_grd (fun g4 => ?_)
  refine gm_callV (k0 := 7) [.int (1 : Int32), .int (0 : Int32), .int (0 : Int32)] (c_X7_add a1 (1 : Int32) (0 : Int32) (0 : Int32) μ) g4 rfl B_X7_add gw_799 gw_720 rfl rfl rfl d_X5_chews_4 (gm_kI (fun x2 m1 => ?_))
  refine gm_pop d_X5_chews_7 rfl ?_
  refine gm_iload_n d_X5_chews_8 rfl 3 rfl ?_
  refine gm_aload_n d_X5_chews_9 rfl 2 rfl ?_
  refine gm_getI F_2_number gw_167 d_X5_chews_10 (fun v3 _ => ?_)
  refine gm_iadd d_X5_chews_13 ?_
  exact gm_iret rfl d_X5_chews_14 (Nat.le_of_ble_eq_true rfl) (Nat.le_of_ble_eq_true rfl) (fun h => h)
theorem d_X1_chews_0 : decode prog_3_method_5_code 0 = .ok (.aload_n 1, 1) := ge_aload_n_1 (by decide +kernel)
theorem d_X1_chews_1 : decode prog_3_method_5_code 1 = .ok (.bipush 51, 2) := ge_bipush (by decide +kernel)
theorem d_X1_chews_3 : decode prog_3_method_5_code 3 = .ok (.iconst 0, 1) := ge_iconst_0 (by decide +kernel)
theorem d_X1_chews_4 : decode prog_3_method_5_code 4 = .ok (.iconst 0, 1) := ge_iconst_0 (by decide +kernel)
theorem d_X1_chews_5 : decode prog_3_method_5_code 5 = .ok (.invokevirtual 23, 3) := ge_invokevirtual (by decide +kernel)
theorem d_X1_chews_8 : decode prog_3_method_5_code 8 = .ok (.pop, 1) := ge_pop (by decide +kernel)
theorem d_X1_chews_9 : decode prog_3_method_5_code 9 = .ok (.aload_n 0, 1) := ge_aload_n_0 (by decide +kernel)
theorem d_X1_chews_10 : decode prog_3_method_5_code 10 = .ok (.aload_n 1, 1) := ge_aload_n_1 (by decide +kernel)
theorem d_X1_chews_11 : decode prog_3_method_5_code 11 = .ok (.aload_n 2, 1) := ge_aload_n_2 (by decide +kernel)
theorem d_X1_chews_12 : decode prog_3_method_5_code 12 = .ok (.iload_n 3, 1) := ge_iload_n_3 (by decide +kernel)
theorem d_X1_chews_13 : decode prog_3_method_5_code 13 = .ok (.invokespecial 29, 3) := ge_invokespecial (by decide +kernel)
theorem d_X1_chews_16 : decode prog_3_method_5_code 16 = .ok (.aload_n 2, 1) := ge_aload_n_2 (by decide +kernel)
theorem d_X1_chews_17 : decode prog_3_method_5_code 17 = .ok (.getfield 33, 3) := ge_getfield (by decide +kernel)
theorem d_X1_chews_20 : decode prog_3_method_5_code 20 = .ok (.ixor, 1) := ge_ixor (by decide +kernel)
theorem d_X1_chews_21 : decode prog_3_method_5_code 21 = .ok (.ireturn, 1) := ge_ireturn (by decide +kernel)
def f_X1_chews (a0 : Nat) (a1 : Nat) (a2 : Nat) (a3 : Int32) (μ : gm_M) : Option (Option Value × gm_M) := if gm_tag μ a1 = 12 then gm_bI (f_X7_add a1 (51 : Int32) (0 : Int32) (0 : Int32) μ) (fun x2 m1 => if List.contains [6] (gm_tag m1 a0) = true then gm_bI (f_X5_chews a0 a1 a2 a3 m1) (fun x4 m3 => gm_gI m3 [7] a2 0 (fun v5 => some (some (.int (x4 ^^^ v5)), m3))) else none) else none
set_option maxHeartbeats 4000000 in
theorem c_X1_chews (a0 : Nat) (a1 : Nat) (a2 : Nat) (a3 : Int32) (μ : gm_M) : gm_Call ({ cls := "GumBubble$Careful", name := "chews", desc := "(LGumBubble$Rows;LGumBubble$Child;I)I" } : Jvm.MethodName) prog_3_method_5_code 4 (some .int) 2 0 0 [.ref a0, .ref a1, .ref a2, .int a3] μ (f_X1_chews a0 a1 a2 a3 μ) := by
  refine gm_start PN_1 (Nat.le_of_ble_eq_true rfl) (fun res μe => ?_)
  unfold f_X1_chews
  show gm_A "GumBubble$Careful" (gm_nm "chews") _ _ _ _ _ _ _ _ _ 0 [(0, .ref a0), (1, .ref a1), (2, .ref a2), (3, .int a3)] [] _ _
  refine gm_aload_n d_X1_chews_0 rfl 1 rfl ?_
  refine gm_bipush (v := 51) d_X1_chews_1 (by decide) ?_
  refine gm_iconst (v := 0) d_X1_chews_3 (by decide) ?_
  refine gm_iconst (v := 0) d_X1_chews_4 (by decide) ?_
  refine gm_grd (fun g5 => ?_)
  refine gm_callV (k0 := 7) [.int (51 : Int32), .int (0 : Int32), .int (0 : Int32)] (c_X7_add a1 (51 : Int32) (0 : Int32) (0 : Int32) μ) g5 rfl B_X7_add gw_785 gw_720 rfl rfl rfl d_X1_chews_5 (gm_kI (fun x2 m1 => ?_))
  refine gm_pop d_X1_chews_8 rfl ?_
  refine gm_aload_n d_X1_chews_9 rfl 0 rfl ?_
  refine gm_aload_n d_X1_chews_10 rfl 1 rfl ?_
  refine gm_aload_n d_X1_chews_11 rfl 2 rfl ?_
  refine gm_iload_n d_X1_chews_12 rfl 3 rfl ?_
  refine gm_grd (fun g13 => ?_)
  refine gm_callSU2 (C1 := "GumBubble$Slow") [.ref a1, .ref a2, .int a3] (c_X5_chews a0 a1 a2 a3 m1) g13 Any_1 (by decide) B_X5_chews gw_786 gw_787 gw_102 gw_78 rfl rfl rfl d_X1_chews_13 (gm_kI (fun x4 m3 => ?_))
  refine gm_aload_n d_X1_chews_16 rfl 2 rfl ?_
  refine gm_getI F_2_number gw_168 d_X1_chews_17 (fun v5 _ => ?_)
  refine gm_ixor d_X1_chews_20 ?_
  exact gm_iret rfl d_X1_chews_21 (Nat.le_of_ble_eq_true rfl) (Nat.le_of_ble_eq_true rfl) (fun h => h)
theorem d_X6_chews_0 : decode prog_8_method_4_code 0 = .ok (.aload_n 1, 1) := ge_aload_n_1 (by decide +kernel)
theorem d_X6_chews_1 : decode prog_8_method_4_code 1 = .ok (.bipush 11, 2) := ge_bipush (by decide +kernel)
theorem d_X6_chews_3 : decode prog_8_method_4_code 3 = .ok (.iconst 0, 1) := ge_iconst_0 (by decide +kernel)
theorem d_X6_chews_4 : decode prog_8_method_4_code 4 = .ok (.iconst 0, 1) := ge_iconst_0 (by decide +kernel)
theorem d_X6_chews_5 : decode prog_8_method_4_code 5 = .ok (.invokevirtual 17, 3) := ge_invokevirtual (by decide +kernel)
theorem d_X6_chews_8 : decode prog_8_method_4_code 8 = .ok (.pop, 1) := ge_pop (by decide +kernel)
theorem d_X6_chews_9 : decode prog_8_method_4_code 9 = .ok (.aload_n 0, 1) := ge_aload_n_0 (by decide +kernel)
theorem d_X6_chews_10 : decode prog_8_method_4_code 10 = .ok (.aload_n 1, 1) := ge_aload_n_1 (by decide +kernel)
theorem d_X6_chews_11 : decode prog_8_method_4_code 11 = .ok (.aload_n 2, 1) := ge_aload_n_2 (by decide +kernel)
theorem d_X6_chews_12 : decode prog_8_method_4_code 12 = .ok (.iload_n 3, 1) := ge_iload_n_3 (by decide +kernel)
theorem d_X6_chews_13 : decode prog_8_method_4_code 13 = .ok (.iconst 3, 1) := ge_iconst_3 (by decide +kernel)
theorem d_X6_chews_14 : decode prog_8_method_4_code 14 = .ok (.imul, 1) := ge_imul (by decide +kernel)
theorem d_X6_chews_15 : decode prog_8_method_4_code 15 = .ok (.invokespecial 23, 3) := ge_invokespecial (by decide +kernel)
theorem d_X6_chews_18 : decode prog_8_method_4_code 18 = .ok (.ireturn, 1) := ge_ireturn (by decide +kernel)
def f_X6_chews (a0 : Nat) (a1 : Nat) (a2 : Nat) (a3 : Int32) (μ : gm_M) : Option (Option Value × gm_M) := if gm_tag μ a1 = 12 then gm_bI (f_X7_add a1 (11 : Int32) (0 : Int32) (0 : Int32) μ) (fun x2 m1 => if List.contains [9, 11] (gm_tag m1 a0) = true then gm_bI (f_X5_chews a0 a1 a2 (a3 * (3 : Int32)) m1) (fun x4 m3 => some (some (.int x4), m3)) else none) else none
set_option maxHeartbeats 4000000 in
theorem c_X6_chews (a0 : Nat) (a1 : Nat) (a2 : Nat) (a3 : Int32) (μ : gm_M) : gm_Call ({ cls := "GumBubble$Quick", name := "chews", desc := "(LGumBubble$Rows;LGumBubble$Child;I)I" } : Jvm.MethodName) prog_8_method_4_code 4 (some .int) 2 0 0 [.ref a0, .ref a1, .ref a2, .int a3] μ (f_X6_chews a0 a1 a2 a3 μ) := by
  refine gm_start PN_6 (Nat.le_of_ble_eq_true rfl) (fun res μe => ?_)
  unfold f_X6_chews
  show gm_A "GumBubble$Quick" (gm_nm "chews") _ _ _ _ _ _ _ _ _ 0 [(0, .ref a0), (1, .ref a1), (2, .ref a2), (3, .int a3)] [] _ _
  refine gm_aload_n d_X6_chews_0 rfl 1 rfl ?_
  refine gm_bipush (v := 11) d_X6_chews_1 (by decide) ?_
  refine gm_iconst (v := 0) d_X6_chews_3 (by decide) ?_
  refine gm_iconst (v := 0) d_X6_chews_4 (by decide) ?_
  refine gm_grd (fun g5 => ?_)
  refine gm_callV (k0 := 7) [.int (11 : Int32), .int (0 : Int32), .int (0 : Int32)] (c_X7_add a1 (11 : Int32) (0 : Int32) (0 : Int32) μ) g5 rfl B_X7_add gw_793 gw_720 rfl rfl rfl d_X6_chews_5 (gm_kI (fun x2 m1 => ?_))
  refine gm_pop d_X6_chews_8 rfl ?_
  refine gm_aload_n d_X6_chews_9 rfl 0 rfl ?_
  refine gm_aload_n d_X6_chews_10 rfl 1 rfl ?_
  refine gm_aload_n d_X6_chews_11 rfl 2 rfl ?_
  refine gm_iload_n d_X6_chews_12 rfl 3 rfl ?_
  refine gm_iconst (v := 3) d_X6_chews_13 (by decide) ?_
  refine gm_imul d_X6_chews_14 ?_
  refine gm_grd (fun g15 => ?_)
  refine gm_callSU [.ref a1, .ref a2, .int (a3 * (3 : Int32))] (c_X5_chews a0 a1 a2 (a3 * (3 : Int32)) m1) g15 Any_6 (by decide) B_X5_chews gw_794 gw_781 gw_70 rfl rfl rfl d_X6_chews_15 (gm_kI (fun x4 m3 => ?_))
  exact gm_iret rfl d_X6_chews_18 (Nat.le_of_ble_eq_true rfl) (Nat.le_of_ble_eq_true rfl) (fun h => h)
def fv_chews (r : Nat) (b0 : Nat) (b1 : Nat) (b2 : Int32) (μ : gm_M) : Option (Option Value × gm_M) := if gm_tag μ r = 10 then f_X5_chews r b0 b1 b2 μ else if gm_tag μ r = 11 then f_X6_chews r b0 b1 b2 μ else if gm_tag μ r = 14 then f_X5_chews r b0 b1 b2 μ else if gm_tag μ r = 8 then f_X5_chews r b0 b1 b2 μ else if gm_tag μ r = 9 then f_X6_chews r b0 b1 b2 μ else if gm_tag μ r = 6 then f_X1_chews r b0 b1 b2 μ else if gm_tag μ r = 15 then f_X5_chews r b0 b1 b2 μ else none
theorem V_chews {own : String} {nm : gm_Nm} {cc : ByteArray} {nL : Nat} {rt : Option FieldType} {R : Room} {res : Option Value} {μe : gm_M} {β : Type} {k n : Nat} {μ : gm_M} {pc : Nat} {L : List (Nat × Value)} {st : List Value} {z : Option β} {κ : β → Prop} (r : Nat) (b0 : Nat) (b1 : Nat) (b2 : Int32) {index : Nat} {st0 : List Value} (hw1 : Jvm.Cond.methodLink own index ({ cls := "GumBubble$Plain", name := "chews", desc := "(LGumBubble$Rows;LGumBubble$Child;I)I" } : Jvm.MethodName) ∈ gm_G) (hfit : gm_fit R k n 0 0 2 4 = true) (hst : st0 = [.ref b0, .ref b1, .int b2].reverse ++ .ref r :: st) (hsm : gm_sum st = true) (hd : decode cc pc = .ok (.invokevirtual index, 3))
    (kk : gm_K2 own nm cc nL rt R res μe (k + 0) (n + 0) (pc + 3) L st (fv_chews r b0 b1 b2 μ) z κ) : gm_A own nm cc nL rt R res μe k n μ pc L st0 z κ := by
  unfold fv_chews at kk
  by_cases h5 : gm_tag μ r = 10
  · rw [if_pos h5] at kk
    exact gm_callV (k0 := 5) [.ref b0, .ref b1, .int b2] (c_X5_chews r b0 b1 b2 μ) h5 rfl B_X5_chews hw1 gw_780 (gm_fit_le hfit (Nat.le_of_ble_eq_true rfl) (Nat.le_of_ble_eq_true rfl)) hst hsm hd kk
  rw [if_neg h5] at kk
  by_cases h6 : gm_tag μ r = 11
  · rw [if_pos h6] at kk
    exact gm_callU (k0 := 6) [.ref b0, .ref b1, .int b2] (c_X6_chews r b0 b1 b2 μ) h6 rfl MH_5 NP_X5_chews B_X6_chews hw1 gw_781 gw_779 gw_798 gw_795 (gm_fit_le hfit (Nat.le_of_ble_eq_true rfl) (Nat.le_of_ble_eq_true rfl)) hst hsm hd kk
  rw [if_neg h6] at kk
  by_cases h9 : gm_tag μ r = 14
  · rw [if_pos h9] at kk
    exact gm_callU (k0 := 9) [.ref b0, .ref b1, .int b2] (c_X5_chews r b0 b1 b2 μ) h9 rfl MH_5 NP_X5_chews B_X5_chews hw1 gw_781 gw_779 gw_798 gw_796 (gm_fit_le hfit (Nat.le_of_ble_eq_true rfl) (Nat.le_of_ble_eq_true rfl)) hst hsm hd kk
  rw [if_neg h9] at kk
  by_cases h3 : gm_tag μ r = 8
  · rw [if_pos h3] at kk
    exact gm_callU (k0 := 3) [.ref b0, .ref b1, .int b2] (c_X5_chews r b0 b1 b2 μ) h3 rfl MH_5 NP_X5_chews B_X5_chews hw1 gw_781 gw_779 gw_798 gw_789 (gm_fit_le hfit (Nat.le_of_ble_eq_true rfl) (Nat.le_of_ble_eq_true rfl)) hst hsm hd kk
  rw [if_neg h3] at kk
  by_cases h4 : gm_tag μ r = 9
  · rw [if_pos h4] at kk
    exact gm_callU (k0 := 4) [.ref b0, .ref b1, .int b2] (c_X6_chews r b0 b1 b2 μ) h4 rfl MH_5 NP_X5_chews B_X6_chews hw1 gw_781 gw_779 gw_798 gw_790 (gm_fit_le hfit (Nat.le_of_ble_eq_true rfl) (Nat.le_of_ble_eq_true rfl)) hst hsm hd kk
  rw [if_neg h4] at kk
  by_cases h1 : gm_tag μ r = 6
  · rw [if_pos h1] at kk
    exact gm_callU (k0 := 1) [.ref b0, .ref b1, .int b2] (c_X1_chews r b0 b1 b2 μ) h1 rfl MH_5 NP_X5_chews B_X1_chews hw1 gw_781 gw_779 gw_798 gw_782 (gm_fit_le hfit (Nat.le_of_ble_eq_true rfl) (Nat.le_of_ble_eq_true rfl)) hst hsm hd kk
  rw [if_neg h1] at kk
  by_cases h10 : gm_tag μ r = 15
  · rw [if_pos h10] at kk
    exact gm_callU (k0 := 10) [.ref b0, .ref b1, .int b2] (c_X5_chews r b0 b1 b2 μ) h10 rfl MH_5 NP_X5_chews B_X5_chews hw1 gw_781 gw_779 gw_798 gw_797 (gm_fit_le hfit (Nat.le_of_ble_eq_true rfl) (Nat.le_of_ble_eq_true rfl)) hst hsm hd kk
  rw [if_neg h10] at kk
  obtain ⟨k0, -⟩ := kk
  rw [k0 rfl]
  exact gm_no
theorem d_X5_blows_0 : decode prog_7_method_6_code 0 = .ok (.aload_n 1, 1) := ge_aload_n_1 (by decide +kernel)
theorem d_X5_blows_1 : decode prog_7_method_6_code 1 = .ok (.iconst 2, 1) := ge_iconst_2 (by decide +kernel)
theorem d_X5_blows_2 : decode prog_7_method_6_code 2 = .ok (.iconst 0, 1) := ge_iconst_0 (by decide +kernel)
theorem d_X5_blows_3 : decode prog_7_method_6_code 3 = .ok (.iconst 0, 1) := ge_iconst_0 (by decide +kernel)
theorem d_X5_blows_4 : decode prog_7_method_6_code 4 = .ok (.invokevirtual 21, 3) := ge_invokevirtual (by decide +kernel)
theorem d_X5_blows_7 : decode prog_7_method_6_code 7 = .ok (.pop, 1) := ge_pop (by decide +kernel)
theorem d_X5_blows_8 : decode prog_7_method_6_code 8 = .ok (.aload_n 0, 1) := ge_aload_n_0 (by decide +kernel)
theorem d_X5_blows_9 : decode prog_7_method_6_code 9 = .ok (.aload_n 1, 1) := ge_aload_n_1 (by decide +kernel)
theorem d_X5_blows_10 : decode prog_7_method_6_code 10 = .ok (.aload_n 2, 1) := ge_aload_n_2 (by decide +kernel)
theorem d_X5_blows_11 : decode prog_7_method_6_code 11 = .ok (.iload_n 3, 1) := ge_iload_n_3 (by decide +kernel)
theorem d_X5_blows_12 : decode prog_7_method_6_code 12 = .ok (.invokevirtual 28, 3) := ge_invokevirtual (by decide +kernel)
theorem d_X5_blows_15 : decode prog_7_method_6_code 15 = .ok (.aload_n 2, 1) := ge_aload_n_2 (by decide +kernel)
theorem d_X5_blows_16 : decode prog_7_method_6_code 16 = .ok (.getfield 13, 3) := ge_getfield (by decide +kernel)
theorem d_X5_blows_19 : decode prog_7_method_6_code 19 = .ok (.isub, 1) := ge_isub (by decide +kernel)
theorem d_X5_blows_20 : decode prog_7_method_6_code 20 = .ok (.ireturn, 1) := ge_ireturn (by decide +kernel)
def f_X5_blows (a0 : Nat) (a1 : Nat) (a2 : Nat) (a3 : Int32) (μ : gm_M) : Option (Option Value × gm_M) := if gm_tag μ a1 = 12 then gm_bI (f_X7_add a1 (2 : Int32) (0 : Int32) (0 : Int32) μ) (fun x2 m1 => gm_bI (fv_chews a0 a1 a2 a3 m1) (fun x4 m3 => gm_gI m3 [7] a2 2 (fun v5 => some (some (.int (x4 - v5)), m3)))) else none
set_option maxHeartbeats 4000000 in
theorem c_X5_blows (a0 : Nat) (a1 : Nat) (a2 : Nat) (a3 : Int32) (μ : gm_M) : gm_Call ({ cls := "GumBubble$Plain", name := "blows", desc := "(LGumBubble$Rows;LGumBubble$Child;I)I" } : Jvm.MethodName) prog_7_method_6_code 4 (some .int) 3 0 0 [.ref a0, .ref a1, .ref a2, .int a3] μ (f_X5_blows a0 a1 a2 a3 μ) := by
  refine gm_start PN_5 (Nat.le_of_ble_eq_true rfl) (fun res μe => ?_)
  unfold f_X5_blows
  show gm_A "GumBubble$Plain" (gm_nm "blows") _ _ _ _ _ _ _ _ _ 0 [(0, .ref a0), (1, .ref a1), (2, .ref a2), (3, .int a3)] [] _ _
  refine gm_aload_n d_X5_blows_0 rfl 1 rfl ?_
  refine gm_iconst (v := 2) d_X5_blows_1 (by decide) ?_
  refine gm_iconst (v := 0) d_X5_blows_2 (by decide) ?_
  refine gm_iconst (v := 0) d_X5_blows_3 (by decide) ?_
  refine gm_grd (fun g4 => ?_)
  refine gm_callV (k0 := 7) [.int (2 : Int32), .int (0 : Int32), .int (0 : Int32)] (c_X7_add a1 (2 : Int32) (0 : Int32) (0 : Int32) μ) g4 rfl B_X7_add gw_799 gw_720 rfl rfl rfl d_X5_blows_4 (gm_kI (fun x2 m1 => ?_))
  refine gm_pop d_X5_blows_7 rfl ?_
  refine gm_aload_n d_X5_blows_8 rfl 0 rfl ?_
  refine gm_aload_n d_X5_blows_9 rfl 1 rfl ?_
  refine gm_aload_n d_X5_blows_10 rfl 2 rfl ?_
  refine gm_iload_n d_X5_blows_11 rfl 3 rfl ?_
  refine V_chews a0 a1 a2 a3 gw_821 rfl rfl rfl d_X5_blows_12 (gm_kI (fun x4 m3 => ?_))
  refine gm_aload_n d_X5_blows_15 rfl 2 rfl ?_
  refine gm_getI F_2_v gw_174 d_X5_blows_16 (fun v5 _ => ?_)
  refine gm_isub d_X5_blows_19 ?_
  exact gm_iret rfl d_X5_blows_20 (Nat.le_of_ble_eq_true rfl) (Nat.le_of_ble_eq_true rfl) (fun h => h)
theorem d_X10_blows_0 : decode prog_12_method_3_code 0 = .ok (.aload_n 1, 1) := ge_aload_n_1 (by decide +kernel)
theorem d_X10_blows_1 : decode prog_12_method_3_code 1 = .ok (.bipush 61, 2) := ge_bipush (by decide +kernel)
theorem d_X10_blows_3 : decode prog_12_method_3_code 3 = .ok (.iconst 0, 1) := ge_iconst_0 (by decide +kernel)
theorem d_X10_blows_4 : decode prog_12_method_3_code 4 = .ok (.iconst 0, 1) := ge_iconst_0 (by decide +kernel)
theorem d_X10_blows_5 : decode prog_12_method_3_code 5 = .ok (.invokevirtual 17, 3) := ge_invokevirtual (by decide +kernel)
theorem d_X10_blows_8 : decode prog_12_method_3_code 8 = .ok (.pop, 1) := ge_pop (by decide +kernel)
theorem d_X10_blows_9 : decode prog_12_method_3_code 9 = .ok (.aload_n 0, 1) := ge_aload_n_0 (by decide +kernel)
theorem d_X10_blows_10 : decode prog_12_method_3_code 10 = .ok (.aload_n 1, 1) := ge_aload_n_1 (by decide +kernel)
theorem d_X10_blows_11 : decode prog_12_method_3_code 11 = .ok (.aload_n 2, 1) := ge_aload_n_2 (by decide +kernel)
theorem d_X10_blows_12 : decode prog_12_method_3_code 12 = .ok (.iload_n 3, 1) := ge_iload_n_3 (by decide +kernel)
theorem d_X10_blows_13 : decode prog_12_method_3_code 13 = .ok (.invokespecial 23, 3) := ge_invokespecial (by decide +kernel)
theorem d_X10_blows_16 : decode prog_12_method_3_code 16 = .ok (.aload_n 2, 1) := ge_aload_n_2 (by decide +kernel)
theorem d_X10_blows_17 : decode prog_12_method_3_code 17 = .ok (.getfield 27, 3) := ge_getfield (by decide +kernel)
theorem d_X10_blows_20 : decode prog_12_method_3_code 20 = .ok (.iadd, 1) := ge_iadd (by decide +kernel)
theorem d_X10_blows_21 : decode prog_12_method_3_code 21 = .ok (.ireturn, 1) := ge_ireturn (by decide +kernel)
def f_X10_blows (a0 : Nat) (a1 : Nat) (a2 : Nat) (a3 : Int32) (μ : gm_M) : Option (Option Value × gm_M) := if gm_tag μ a1 = 12 then gm_bI (f_X7_add a1 (61 : Int32) (0 : Int32) (0 : Int32) μ) (fun x2 m1 => if List.contains [15] (gm_tag m1 a0) = true then gm_bI (f_X5_blows a0 a1 a2 a3 m1) (fun x4 m3 => gm_gI m3 [7] a2 2 (fun v5 => some (some (.int (x4 + v5)), m3))) else none) else none
set_option maxHeartbeats 4000000 in
theorem c_X10_blows (a0 : Nat) (a1 : Nat) (a2 : Nat) (a3 : Int32) (μ : gm_M) : gm_Call ({ cls := "GumBubble$Told", name := "blows", desc := "(LGumBubble$Rows;LGumBubble$Child;I)I" } : Jvm.MethodName) prog_12_method_3_code 4 (some .int) 4 0 0 [.ref a0, .ref a1, .ref a2, .int a3] μ (f_X10_blows a0 a1 a2 a3 μ) := by
  refine gm_start PN_10 (Nat.le_of_ble_eq_true rfl) (fun res μe => ?_)
  unfold f_X10_blows
  show gm_A "GumBubble$Told" (gm_nm "blows") _ _ _ _ _ _ _ _ _ 0 [(0, .ref a0), (1, .ref a1), (2, .ref a2), (3, .int a3)] [] _ _
  refine gm_aload_n d_X10_blows_0 rfl 1 rfl ?_
  refine gm_bipush (v := 61) d_X10_blows_1 (by decide) ?_
  refine gm_iconst (v := 0) d_X10_blows_3 (by decide) ?_
  refine gm_iconst (v := 0) d_X10_blows_4 (by decide) ?_
  refine gm_grd (fun g5 => ?_)
  refine gm_callV (k0 := 7) [.int (61 : Int32), .int (0 : Int32), .int (0 : Int32)] (c_X7_add a1 (61 : Int32) (0 : Int32) (0 : Int32) μ) g5 rfl B_X7_add gw_816 gw_720 rfl rfl rfl d_X10_blows_5 (gm_kI (fun x2 m1 => ?_))
  refine gm_pop d_X10_blows_8 rfl ?_
  refine gm_aload_n d_X10_blows_9 rfl 0 rfl ?_
  refine gm_aload_n d_X10_blows_10 rfl 1 rfl ?_
  refine gm_aload_n d_X10_blows_11 rfl 2 rfl ?_
  refine gm_iload_n d_X10_blows_12 rfl 3 rfl ?_
  refine gm_grd (fun g13 => ?_)
  refine gm_callSU2 (C1 := "GumBubble$Cold") [.ref a1, .ref a2, .int a3] (c_X5_blows a0 a1 a2 a3 m1) g13 Any_10 (by decide) B_X5_blows gw_817 gw_818 gw_110 gw_86 rfl rfl rfl d_X10_blows_13 (gm_kI (fun x4 m3 => ?_))
  refine gm_aload_n d_X10_blows_16 rfl 2 rfl ?_
  refine gm_getI F_2_v gw_176 d_X10_blows_17 (fun v5 _ => ?_)
  refine gm_iadd d_X10_blows_20 ?_
  exact gm_iret rfl d_X10_blows_21 (Nat.le_of_ble_eq_true rfl) (Nat.le_of_ble_eq_true rfl) (fun h => h)
theorem d_X5_init_0 : decode prog_7_method_1_code 0 = .ok (.aload_n 0, 1) := ge_aload_n_0 (by decide +kernel)
theorem d_X5_init_1 : decode prog_7_method_1_code 1 = .ok (.invokespecial 1, 3) := ge_invokespecial (by decide +kernel)
theorem d_X5_init_4 : decode prog_7_method_1_code 4 = .ok (.aload_n 0, 1) := ge_aload_n_0 (by decide +kernel)
theorem d_X5_init_5 : decode prog_7_method_1_code 5 = .ok (.iload_n 1, 1) := ge_iload_n_1 (by decide +kernel)
theorem d_X5_init_6 : decode prog_7_method_1_code 6 = .ok (.putfield 7, 3) := ge_putfield (by decide +kernel)
theorem d_X5_init_9 : decode prog_7_method_1_code 9 = .ok (.return_, 1) := ge_return_ (by decide +kernel)
def f_X5_init (a0 : Nat) (a1 : Int32) (μ : gm_M) : Option (Option Value × gm_M) := if gm_tag μ a0 ≠ 0 then gm_pI μ [6, 8, 9, 10, 11, 14, 15] a0 0 a1 (fun m2 => some (none, m2)) else none
set_option maxHeartbeats 4000000 in
theorem c_X5_init (a0 : Nat) (a1 : Int32) (μ : gm_M) : gm_Call ({ cls := "GumBubble$Plain", name := "<init>", desc := "(I)V" } : Jvm.MethodName) prog_7_method_1_code 2 none 1 0 0 [.ref a0, .int a1] μ (f_X5_init a0 a1 μ) := by
  refine gm_start PN_5 (Nat.le_of_ble_eq_true rfl) (fun res μe => ?_)
  unfold f_X5_init
  show gm_A "GumBubble$Plain" (gm_nm "<init>") _ _ _ _ _ _ _ _ _ 0 [(0, .ref a0), (1, .int a1)] [] _ _
  refine gm_aload_n d_X5_init_0 rfl 0 rfl ?_
  refine gm_grd (fun g1 => ?_)
  refine gm_obj g1 gw_56 gw_27 gw_28 (Nat.le_of_ble_eq_true rfl) (Nat.le_of_ble_eq_true rfl) rfl d_X5_init_1 ?_
  refine gm_aload_n d_X5_init_4 rfl 0 rfl ?_
  refine gm_iload_n d_X5_init_5 rfl 1 rfl ?_
  refine gm_putI F_5_number (Or.inr ⟨rfl, rfl⟩) gw_57 d_X5_init_6 (fun m2 _ => ?_)
  exact gm_vret rfl d_X5_init_9 (Nat.le_of_ble_eq_true rfl) (Nat.le_of_ble_eq_true rfl) (fun h => h)
theorem d_X3_init_0 : decode prog_5_method_1_code 0 = .ok (.aload_n 0, 1) := ge_aload_n_0 (by decide +kernel)
theorem d_X3_init_1 : decode prog_5_method_1_code 1 = .ok (.iload_n 1, 1) := ge_iload_n_1 (by decide +kernel)
theorem d_X3_init_2 : decode prog_5_method_1_code 2 = .ok (.invokespecial 1, 3) := ge_invokespecial (by decide +kernel)
theorem d_X3_init_5 : decode prog_5_method_1_code 5 = .ok (.return_, 1) := ge_return_ (by decide +kernel)
def f_X3_init (a0 : Nat) (a1 : Int32) (μ : gm_M) : Option (Option Value × gm_M) := if gm_tag μ a0 ≠ 0 then gm_bV (f_X5_init a0 a1 μ) (fun m1 => some (none, m1)) else none
set_option maxHeartbeats 4000000 in
theorem c_X3_init (a0 : Nat) (a1 : Int32) (μ : gm_M) : gm_Call ({ cls := "GumBubble$Cold", name := "<init>", desc := "(I)V" } : Jvm.MethodName) prog_5_method_1_code 2 none 2 0 0 [.ref a0, .int a1] μ (f_X3_init a0 a1 μ) := by
  refine gm_start PN_3 (Nat.le_of_ble_eq_true rfl) (fun res μe => ?_)
  unfold f_X3_init
  show gm_A "GumBubble$Cold" (gm_nm "<init>") _ _ _ _ _ _ _ _ _ 0 [(0, .ref a0), (1, .int a1)] [] _ _
  refine gm_aload_n d_X3_init_0 rfl 0 rfl ?_
  refine gm_iload_n d_X3_init_1 rfl 1 rfl ?_
  refine gm_grd (fun g2 => ?_)
  refine gm_callI [.int a1] (c_X5_init a0 a1 μ) g2 rfl B_X5_init gw_84 rfl rfl rfl d_X3_init_2 (gm_kV (fun m1 => ?_))
  exact gm_vret rfl d_X3_init_5 (Nat.le_of_ble_eq_true rfl) (Nat.le_of_ble_eq_true rfl) (fun h => h)
theorem d_X10_init_0 : decode prog_12_method_1_code 0 = .ok (.aload_n 0, 1) := ge_aload_n_0 (by decide +kernel)
theorem d_X10_init_1 : decode prog_12_method_1_code 1 = .ok (.iload_n 1, 1) := ge_iload_n_1 (by decide +kernel)
theorem d_X10_init_2 : decode prog_12_method_1_code 2 = .ok (.invokespecial 1, 3) := ge_invokespecial (by decide +kernel)
theorem d_X10_init_5 : decode prog_12_method_1_code 5 = .ok (.return_, 1) := ge_return_ (by decide +kernel)
def f_X10_init (a0 : Nat) (a1 : Int32) (μ : gm_M) : Option (Option Value × gm_M) := if gm_tag μ a0 ≠ 0 then gm_bV (f_X3_init a0 a1 μ) (fun m1 => some (none, m1)) else none
set_option maxHeartbeats 4000000 in
theorem c_X10_init (a0 : Nat) (a1 : Int32) (μ : gm_M) : gm_Call ({ cls := "GumBubble$Told", name := "<init>", desc := "(I)V" } : Jvm.MethodName) prog_12_method_1_code 2 none 3 0 0 [.ref a0, .int a1] μ (f_X10_init a0 a1 μ) := by
  refine gm_start PN_10 (Nat.le_of_ble_eq_true rfl) (fun res μe => ?_)
  unfold f_X10_init
  show gm_A "GumBubble$Told" (gm_nm "<init>") _ _ _ _ _ _ _ _ _ 0 [(0, .ref a0), (1, .int a1)] [] _ _
  refine gm_aload_n d_X10_init_0 rfl 0 rfl ?_
  refine gm_iload_n d_X10_init_1 rfl 1 rfl ?_
  refine gm_grd (fun g2 => ?_)
  refine gm_callI [.int a1] (c_X3_init a0 a1 μ) g2 rfl B_X3_init gw_108 rfl rfl rfl d_X10_init_2 (gm_kV (fun m1 => ?_))
  exact gm_vret rfl d_X10_init_5 (Nat.le_of_ble_eq_true rfl) (Nat.le_of_ble_eq_true rfl) (fun h => h)
theorem d_X5_sugarChewed_0 : decode prog_7_method_2_code 0 = .ok (.iconst 3, 1) := ge_iconst_3 (by decide +kernel)
theorem d_X5_sugarChewed_1 : decode prog_7_method_2_code 1 = .ok (.aload_n 1, 1) := ge_aload_n_1 (by decide +kernel)
theorem d_X5_sugarChewed_2 : decode prog_7_method_2_code 2 = .ok (.getfield 13, 3) := ge_getfield (by decide +kernel)
theorem d_X5_sugarChewed_5 : decode prog_7_method_2_code 5 = .ok (.iconst 2, 1) := ge_iconst_2 (by decide +kernel)
theorem d_X5_sugarChewed_6 : decode prog_7_method_2_code 6 = .ok (.idiv, 1) := ge_idiv (by decide +kernel)
theorem d_X5_sugarChewed_7 : decode prog_7_method_2_code 7 = .ok (.iadd, 1) := ge_iadd (by decide +kernel)
theorem d_X5_sugarChewed_8 : decode prog_7_method_2_code 8 = .ok (.ireturn, 1) := ge_ireturn (by decide +kernel)
def f_X5_sugarChewed (a0 : Nat) (a1 : Nat) (a2 : Int32) (μ : gm_M) : Option (Option Value × gm_M) := gm_gI μ [7] a1 2 (fun v1 => if (2 : Int32) = 0 then none else some (some (.int ((3 : Int32) + (v1 / (2 : Int32)))), μ))
set_option maxHeartbeats 4000000 in
theorem c_X5_sugarChewed (a0 : Nat) (a1 : Nat) (a2 : Int32) (μ : gm_M) : gm_Call ({ cls := "GumBubble$Plain", name := "sugarChewed", desc := "(LGumBubble$Child;I)I" } : Jvm.MethodName) prog_7_method_2_code 3 (some .int) 0 0 0 [.ref a0, .ref a1, .int a2] μ (f_X5_sugarChewed a0 a1 a2 μ) := by
  refine gm_start PN_5 (Nat.le_of_ble_eq_true rfl) (fun res μe => ?_)
  unfold f_X5_sugarChewed
  show gm_A "GumBubble$Plain" (gm_nm "sugarChewed") _ _ _ _ _ _ _ _ _ 0 [(0, .ref a0), (1, .ref a1), (2, .int a2)] [] _ _
  refine gm_iconst (v := 3) d_X5_sugarChewed_0 (by decide) ?_
  refine gm_aload_n d_X5_sugarChewed_1 rfl 1 rfl ?_
  refine gm_getI F_2_v gw_174 d_X5_sugarChewed_2 (fun v1 _ => ?_)
  refine gm_iconst (v := 2) d_X5_sugarChewed_5 (by decide) ?_
  refine gm_idiv d_X5_sugarChewed_6 ?_
  refine gm_iadd d_X5_sugarChewed_7 ?_
  exact gm_iret rfl d_X5_sugarChewed_8 (Nat.le_of_ble_eq_true rfl) (Nat.le_of_ble_eq_true rfl) (fun h => h)
theorem d_X3_sugarChewed_0 : decode prog_5_method_2_code 0 = .ok (.iconst 0, 1) := ge_iconst_0 (by decide +kernel)
theorem d_X3_sugarChewed_1 : decode prog_5_method_2_code 1 = .ok (.aload_n 0, 1) := ge_aload_n_0 (by decide +kernel)
theorem d_X3_sugarChewed_2 : decode prog_5_method_2_code 2 = .ok (.aload_n 1, 1) := ge_aload_n_1 (by decide +kernel)
theorem d_X3_sugarChewed_3 : decode prog_5_method_2_code 3 = .ok (.iload_n 2, 1) := ge_iload_n_2 (by decide +kernel)
theorem d_X3_sugarChewed_4 : decode prog_5_method_2_code 4 = .ok (.invokespecial 7, 3) := ge_invokespecial (by decide +kernel)
theorem d_X3_sugarChewed_7 : decode prog_5_method_2_code 7 = .ok (.iconst 2, 1) := ge_iconst_2 (by decide +kernel)
theorem d_X3_sugarChewed_8 : decode prog_5_method_2_code 8 = .ok (.isub, 1) := ge_isub (by decide +kernel)
theorem d_X3_sugarChewed_9 : decode prog_5_method_2_code 9 = .ok (.invokestatic 11, 3) := ge_invokestatic (by decide +kernel)
theorem d_X3_sugarChewed_12 : decode prog_5_method_2_code 12 = .ok (.ireturn, 1) := ge_ireturn (by decide +kernel)
def f_X3_sugarChewed (a0 : Nat) (a1 : Nat) (a2 : Int32) (μ : gm_M) : Option (Option Value × gm_M) := if List.contains [8, 15] (gm_tag μ a0) = true then gm_bI (f_X5_sugarChewed a0 a1 a2 μ) (fun x2 m1 => some (some (.int (if (0 : Int32) < (x2 - (2 : Int32)) then (x2 - (2 : Int32)) else (0 : Int32))), m1)) else none
set_option maxHeartbeats 4000000 in
theorem c_X3_sugarChewed (a0 : Nat) (a1 : Nat) (a2 : Int32) (μ : gm_M) : gm_Call ({ cls := "GumBubble$Cold", name := "sugarChewed", desc := "(LGumBubble$Child;I)I" } : Jvm.MethodName) prog_5_method_2_code 3 (some .int) 1 0 0 [.ref a0, .ref a1, .int a2] μ (f_X3_sugarChewed a0 a1 a2 μ) := by
  refine gm_start PN_3 (Nat.le_of_ble_eq_true rfl) (fun res μe => ?_)
  unfold f_X3_sugarChewed
  show gm_A "GumBubble$Cold" (gm_nm "sugarChewed") _ _ _ _ _ _ _ _ _ 0 [(0, .ref a0), (1, .ref a1), (2, .int a2)] [] _ _
  refine gm_iconst (v := 0) d_X3_sugarChewed_0 (by decide) ?_
  refine gm_aload_n d_X3_sugarChewed_1 rfl 0 rfl ?_
  refine gm_aload_n d_X3_sugarChewed_2 rfl 1 rfl ?_
  refine gm_iload_n d_X3_sugarChewed_3 rfl 2 rfl ?_
  refine gm_grd (fun g4 => ?_)
  refine gm_callSU [.ref a1, .int a2] (c_X5_sugarChewed a0 a1 a2 μ) g4 Any_3 (by decide) B_X5_sugarChewed gw_508 gw_497 gw_86 rfl rfl rfl d_X3_sugarChewed_4 (gm_kI (fun x2 m1 => ?_))
  refine gm_iconst (v := 2) d_X3_sugarChewed_7 (by decide) ?_
  refine gm_isub d_X3_sugarChewed_8 ?_
  refine gm_max gw_509 gw_38 gw_3 (show _ from gw_39) (Nat.le_of_ble_eq_true rfl) (Nat.le_of_ble_eq_true rfl) (Nat.le_of_ble_eq_true rfl) (Nat.le_of_ble_eq_true rfl) rfl d_X3_sugarChewed_9 ?_
  exact gm_iret rfl d_X3_sugarChewed_12 (Nat.le_of_ble_eq_true rfl) (Nat.le_of_ble_eq_true rfl) (fun h => h)
theorem d_X10_sugarChewed_0 : decode prog_12_method_2_code 0 = .ok (.aload_n 0, 1) := ge_aload_n_0 (by decide +kernel)
theorem d_X10_sugarChewed_1 : decode prog_12_method_2_code 1 = .ok (.aload_n 1, 1) := ge_aload_n_1 (by decide +kernel)
theorem d_X10_sugarChewed_2 : decode prog_12_method_2_code 2 = .ok (.iload_n 2, 1) := ge_iload_n_2 (by decide +kernel)
theorem d_X10_sugarChewed_3 : decode prog_12_method_2_code 3 = .ok (.invokespecial 7, 3) := ge_invokespecial (by decide +kernel)
theorem d_X10_sugarChewed_6 : decode prog_12_method_2_code 6 = .ok (.aload_n 1, 1) := ge_aload_n_1 (by decide +kernel)
theorem d_X10_sugarChewed_7 : decode prog_12_method_2_code 7 = .ok (.getfield 11, 3) := ge_getfield (by decide +kernel)
theorem d_X10_sugarChewed_10 : decode prog_12_method_2_code 10 = .ok (.iload_n 2, 1) := ge_iload_n_2 (by decide +kernel)
theorem d_X10_sugarChewed_11 : decode prog_12_method_2_code 11 = .ok (.iconst 3, 1) := ge_iconst_3 (by decide +kernel)
theorem d_X10_sugarChewed_12 : decode prog_12_method_2_code 12 = .ok (.iand, 1) := ge_iand (by decide +kernel)
theorem d_X10_sugarChewed_13 : decode prog_12_method_2_code 13 = .ok (.iaload, 1) := ge_iaload (by decide +kernel)
theorem d_X10_sugarChewed_14 : decode prog_12_method_2_code 14 = .ok (.iadd, 1) := ge_iadd (by decide +kernel)
theorem d_X10_sugarChewed_15 : decode prog_12_method_2_code 15 = .ok (.ireturn, 1) := ge_ireturn (by decide +kernel)
def f_X10_sugarChewed (a0 : Nat) (a1 : Nat) (a2 : Int32) (μ : gm_M) : Option (Option Value × gm_M) := if List.contains [15] (gm_tag μ a0) = true then gm_bI (f_X3_sugarChewed a0 a1 a2 μ) (fun x2 m1 => gm_gR m1 [7] a1 8 (fun v3 => gm_aI m1 v3 (a2 &&& (3 : Int32)) (fun v4 => some (some (.int (x2 + v4)), m1)))) else none
set_option maxHeartbeats 4000000 in
theorem c_X10_sugarChewed (a0 : Nat) (a1 : Nat) (a2 : Int32) (μ : gm_M) : gm_Call ({ cls := "GumBubble$Told", name := "sugarChewed", desc := "(LGumBubble$Child;I)I" } : Jvm.MethodName) prog_12_method_2_code 3 (some .int) 2 0 0 [.ref a0, .ref a1, .int a2] μ (f_X10_sugarChewed a0 a1 a2 μ) := by
  refine gm_start PN_10 (Nat.le_of_ble_eq_true rfl) (fun res μe => ?_)
  unfold f_X10_sugarChewed
  show gm_A "GumBubble$Told" (gm_nm "sugarChewed") _ _ _ _ _ _ _ _ _ 0 [(0, .ref a0), (1, .ref a1), (2, .int a2)] [] _ _
  refine gm_aload_n d_X10_sugarChewed_0 rfl 0 rfl ?_
  refine gm_aload_n d_X10_sugarChewed_1 rfl 1 rfl ?_
  refine gm_iload_n d_X10_sugarChewed_2 rfl 2 rfl ?_
  refine gm_grd (fun g3 => ?_)
  refine gm_callSU [.ref a1, .int a2] (c_X3_sugarChewed a0 a1 a2 μ) g3 Any_10 (by decide) B_X3_sugarChewed gw_522 gw_1327 gw_110 rfl rfl rfl d_X10_sugarChewed_3 (gm_kI (fun x2 m1 => ?_))
  refine gm_aload_n d_X10_sugarChewed_6 rfl 1 rfl ?_
  refine gm_getR F_2_row gw_197 d_X10_sugarChewed_7 (fun v3 _ => ?_)
  refine gm_iload_n d_X10_sugarChewed_10 rfl 2 rfl ?_
  refine gm_iconst (v := 3) d_X10_sugarChewed_11 (by decide) ?_
  refine gm_iand d_X10_sugarChewed_12 ?_
  refine gm_iald d_X10_sugarChewed_13 (fun v4 _ => ?_)
  refine gm_iadd d_X10_sugarChewed_14 ?_
  exact gm_iret rfl d_X10_sugarChewed_15 (Nat.le_of_ble_eq_true rfl) (Nat.le_of_ble_eq_true rfl) (fun h => h)
theorem d_X11_isOutside_0 : decode prog_1_method_39_code 0 = .ok (.iload_n 0, 1) := ge_iload_n_0 (by decide +kernel)
theorem d_X11_isOutside_1 : decode prog_1_method_39_code 1 = .ok (.iload_n 1, 1) := ge_iload_n_1 (by decide +kernel)
theorem d_X11_isOutside_2 : decode prog_1_method_39_code 2 = .ok (.if_icmp .lt 8, 3) := ge_if_icmp_lt (by decide +kernel)
theorem d_X11_isOutside_5 : decode prog_1_method_39_code 5 = .ok (.iload_n 0, 1) := ge_iload_n_0 (by decide +kernel)
theorem d_X11_isOutside_6 : decode prog_1_method_39_code 6 = .ok (.iload_n 2, 1) := ge_iload_n_2 (by decide +kernel)
theorem d_X11_isOutside_7 : decode prog_1_method_39_code 7 = .ok (.if_icmp .le 7, 3) := ge_if_icmp_le (by decide +kernel)
theorem d_X11_isOutside_10 : decode prog_1_method_39_code 10 = .ok (.iconst 1, 1) := ge_iconst_1 (by decide +kernel)
theorem d_X11_isOutside_11 : decode prog_1_method_39_code 11 = .ok (.goto 4, 3) := ge_goto (by decide +kernel)
theorem d_X11_isOutside_14 : decode prog_1_method_39_code 14 = .ok (.iconst 0, 1) := ge_iconst_0 (by decide +kernel)
theorem d_X11_isOutside_15 : decode prog_1_method_39_code 15 = .ok (.ireturn, 1) := ge_ireturn (by decide +kernel)
def f_X11_isOutside (a0 : Int32) (a1 : Int32) (a2 : Int32) (μ : gm_M) : Option (Option Value × gm_M) := gm_j (fun (s1 : Unit) => if (1 : Int32) = 0 ∨ (1 : Int32) = 1 then some (some (.int (1 : Int32)), μ) else none) (fun j2 => if a0 < a1 then j2 () else if a0 ≤ a2 then if (0 : Int32) = 0 ∨ (0 : Int32) = 1 then some (some (.int (0 : Int32)), μ) else none else j2 ())
set_option maxHeartbeats 4000000 in
theorem c_X11_isOutside (a0 : Int32) (a1 : Int32) (a2 : Int32) (μ : gm_M) : gm_Call ({ cls := "GumBubble", name := "isOutside", desc := "(III)Z" } : Jvm.MethodName) prog_1_method_39_code 3 (some .boolean) 0 0 0 [.int a0, .int a1, .int a2] μ (f_X11_isOutside a0 a1 a2 μ) := by
  refine gm_start PN_11 (Nat.le_of_ble_eq_true rfl) (fun res μe => ?_)
  unfold f_X11_isOutside
  show gm_A "GumBubble" (gm_nm "isOutside") _ _ _ _ _ _ _ _ _ 0 [(0, .int a0), (1, .int a1), (2, .int a2)] [] _ _
  refine gm_iload_n d_X11_isOutside_0 rfl 0 rfl ?_
  refine gm_iload_n d_X11_isOutside_1 rfl 1 rfl ?_
  refine gm_join (S := Unit) (pj := 10) (kj := 0) (nj := 0) (fun s1 => μ) (fun s1 => [(0, .int a0), (1, .int a1), (2, .int a2)]) (fun s1 => []) (fun s1 => ?_) (fun j2 hj2 => ?_)
  ·
    refine gm_iconst (v := 1) d_X11_isOutside_10 (by decide) ?_
    refine gm_goto (tgt := 15) d_X11_isOutside_11 (by decide) ?_
    exact gm_zret rfl d_X11_isOutside_15 (Nat.le_of_ble_eq_true rfl) (Nat.le_of_ble_eq_true rfl) (fun h => h)
  ·
    refine gm_icmp_lt (tgt := 10) d_X11_isOutside_2 (by decide) (fun h2 => ?_) (fun h2 => ?_)
    ·
      exact hj2 ()
    ·
      refine gm_iload_n d_X11_isOutside_5 rfl 0 rfl ?_
      refine gm_iload_n d_X11_isOutside_6 rfl 2 rfl ?_
      refine gm_icmp_le (tgt := 14) d_X11_isOutside_7 (by decide) (fun h7 => ?_) (fun h7 => ?_)
      ·
        refine gm_iconst (v := 0) d_X11_isOutside_14 (by decide) ?_
        exact gm_zret rfl d_X11_isOutside_15 (Nat.le_of_ble_eq_true rfl) (Nat.le_of_ble_eq_true rfl) (fun h => h)
      ·
        exact hj2 ()
theorem d_X11_isNobody_0 : decode prog_1_method_40_code 0 = .ok (.iload_n 1, 1) := ge_iload_n_1 (by decide +kernel)
theorem d_X11_isNobody_1 : decode prog_1_method_40_code 1 = .ok (.iconst 0, 1) := ge_iconst_0 (by decide +kernel)
theorem d_X11_isNobody_2 : decode prog_1_method_40_code 2 = .ok (.aload_n 0, 1) := ge_aload_n_0 (by decide +kernel)
theorem d_X11_isNobody_3 : decode prog_1_method_40_code 3 = .ok (.getfield 60, 3) := ge_getfield (by decide +kernel)
theorem d_X11_isNobody_6 : decode prog_1_method_40_code 6 = .ok (.getfield 101, 3) := ge_getfield (by decide +kernel)
theorem d_X11_isNobody_9 : decode prog_1_method_40_code 9 = .ok (.iconst 1, 1) := ge_iconst_1 (by decide +kernel)
theorem d_X11_isNobody_10 : decode prog_1_method_40_code 10 = .ok (.isub, 1) := ge_isub (by decide +kernel)
theorem d_X11_isNobody_11 : decode prog_1_method_40_code 11 = .ok (.invokestatic 76, 3) := ge_invokestatic (by decide +kernel)
theorem d_X11_isNobody_14 : decode prog_1_method_40_code 14 = .ok (.ireturn, 1) := ge_ireturn (by decide +kernel)
def f_X11_isNobody (a0 : Nat) (a1 : Int32) (μ : gm_M) : Option (Option Value × gm_M) := gm_gR μ [16] a0 1 (fun v1 => gm_gI μ [13] v1 1 (fun v2 => gm_bI (f_X11_isOutside a1 (0 : Int32) (v2 - (1 : Int32)) μ) (fun x4 m3 => if x4 = 0 ∨ x4 = 1 then some (some (.int x4), m3) else none)))
set_option maxHeartbeats 4000000 in
theorem c_X11_isNobody (a0 : Nat) (a1 : Int32) (μ : gm_M) : gm_Call ({ cls := "GumBubble", name := "isNobody", desc := "(I)Z" } : Jvm.MethodName) prog_1_method_40_code 2 (some .boolean) 1 0 0 [.ref a0, .int a1] μ (f_X11_isNobody a0 a1 μ) := by
  refine gm_start PN_11 (Nat.le_of_ble_eq_true rfl) (fun res μe => ?_)
  unfold f_X11_isNobody
  show gm_A "GumBubble" (gm_nm "isNobody") _ _ _ _ _ _ _ _ _ 0 [(0, .ref a0), (1, .int a1)] [] _ _
  refine gm_iload_n d_X11_isNobody_0 rfl 1 rfl ?_
  refine gm_iconst (v := 0) d_X11_isNobody_1 (by decide) ?_
  refine gm_aload_n d_X11_isNobody_2 rfl 0 rfl ?_
  refine gm_getR F_11_now gw_262 d_X11_isNobody_3 (fun v1 _ => ?_)
  refine gm_getI F_8_size gw_221 d_X11_isNobody_6 (fun v2 _ => ?_)
  refine gm_iconst (v := 1) d_X11_isNobody_9 (by decide) ?_
  refine gm_isub d_X11_isNobody_10 ?_
  refine gm_callS [.int a1, .int (0 : Int32), .int (v2 - (1 : Int32))] (c_X11_isOutside a1 (0 : Int32) (v2 - (1 : Int32)) μ) B_X11_isOutside gw_296 rfl rfl rfl d_X11_isNobody_11 (gm_kI (fun x4 m3 => ?_))
  exact gm_zret rfl d_X11_isNobody_14 (Nat.le_of_ble_eq_true rfl) (Nat.le_of_ble_eq_true rfl) (fun h => h)
theorem d_X9_blows_0 : decode prog_11_method_3_code 0 = .ok (.aload_n 1, 1) := ge_aload_n_1 (by decide +kernel)
theorem d_X9_blows_1 : decode prog_11_method_3_code 1 = .ok (.bipush 21, 2) := ge_bipush (by decide +kernel)
theorem d_X9_blows_3 : decode prog_11_method_3_code 3 = .ok (.iconst 0, 1) := ge_iconst_0 (by decide +kernel)
theorem d_X9_blows_4 : decode prog_11_method_3_code 4 = .ok (.iconst 0, 1) := ge_iconst_0 (by decide +kernel)
theorem d_X9_blows_5 : decode prog_11_method_3_code 5 = .ok (.invokevirtual 11, 3) := ge_invokevirtual (by decide +kernel)
theorem d_X9_blows_8 : decode prog_11_method_3_code 8 = .ok (.pop, 1) := ge_pop (by decide +kernel)
theorem d_X9_blows_9 : decode prog_11_method_3_code 9 = .ok (.aload_n 0, 1) := ge_aload_n_0 (by decide +kernel)
theorem d_X9_blows_10 : decode prog_11_method_3_code 10 = .ok (.aload_n 1, 1) := ge_aload_n_1 (by decide +kernel)
theorem d_X9_blows_11 : decode prog_11_method_3_code 11 = .ok (.aload_n 2, 1) := ge_aload_n_2 (by decide +kernel)
theorem d_X9_blows_12 : decode prog_11_method_3_code 12 = .ok (.iload_n 3, 1) := ge_iload_n_3 (by decide +kernel)
theorem d_X9_blows_13 : decode prog_11_method_3_code 13 = .ok (.invokespecial 17, 3) := ge_invokespecial (by decide +kernel)
theorem d_X9_blows_16 : decode prog_11_method_3_code 16 = .ok (.ineg, 1) := ge_ineg (by decide +kernel)
theorem d_X9_blows_17 : decode prog_11_method_3_code 17 = .ok (.ireturn, 1) := ge_ireturn (by decide +kernel)
def f_X9_blows (a0 : Nat) (a1 : Nat) (a2 : Nat) (a3 : Int32) (μ : gm_M) : Option (Option Value × gm_M) := if gm_tag μ a1 = 12 then gm_bI (f_X7_add a1 (21 : Int32) (0 : Int32) (0 : Int32) μ) (fun x2 m1 => if List.contains [6, 14] (gm_tag m1 a0) = true then gm_bI (f_X5_blows a0 a1 a2 a3 m1) (fun x4 m3 => some (some (.int (-x4)), m3)) else none) else none
set_option maxHeartbeats 4000000 in
theorem c_X9_blows (a0 : Nat) (a1 : Nat) (a2 : Nat) (a3 : Int32) (μ : gm_M) : gm_Call ({ cls := "GumBubble$Slow", name := "blows", desc := "(LGumBubble$Rows;LGumBubble$Child;I)I" } : Jvm.MethodName) prog_11_method_3_code 4 (some .int) 4 0 0 [.ref a0, .ref a1, .ref a2, .int a3] μ (f_X9_blows a0 a1 a2 a3 μ) := by
  refine gm_start PN_9 (Nat.le_of_ble_eq_true rfl) (fun res μe => ?_)
  unfold f_X9_blows
  show gm_A "GumBubble$Slow" (gm_nm "blows") _ _ _ _ _ _ _ _ _ 0 [(0, .ref a0), (1, .ref a1), (2, .ref a2), (3, .int a3)] [] _ _
  refine gm_aload_n d_X9_blows_0 rfl 1 rfl ?_
  refine gm_bipush (v := 21) d_X9_blows_1 (by decide) ?_
  refine gm_iconst (v := 0) d_X9_blows_3 (by decide) ?_
  refine gm_iconst (v := 0) d_X9_blows_4 (by decide) ?_
  refine gm_grd (fun g5 => ?_)
  refine gm_callV (k0 := 7) [.int (21 : Int32), .int (0 : Int32), .int (0 : Int32)] (c_X7_add a1 (21 : Int32) (0 : Int32) (0 : Int32) μ) g5 rfl B_X7_add gw_807 gw_720 rfl rfl rfl d_X9_blows_5 (gm_kI (fun x2 m1 => ?_))
  refine gm_pop d_X9_blows_8 rfl ?_
  refine gm_aload_n d_X9_blows_9 rfl 0 rfl ?_
  refine gm_aload_n d_X9_blows_10 rfl 1 rfl ?_
  refine gm_aload_n d_X9_blows_11 rfl 2 rfl ?_
  refine gm_iload_n d_X9_blows_12 rfl 3 rfl ?_
  refine gm_grd (fun g13 => ?_)
  refine gm_callSU [.ref a1, .ref a2, .int a3] (c_X5_blows a0 a1 a2 a3 m1) g13 Any_9 (by decide) B_X5_blows gw_808 gw_803 gw_78 rfl rfl rfl d_X9_blows_13 (gm_kI (fun x4 m3 => ?_))
  refine gm_ineg d_X9_blows_16 ?_
  exact gm_iret rfl d_X9_blows_17 (Nat.le_of_ble_eq_true rfl) (Nat.le_of_ble_eq_true rfl) (fun h => h)
def fv_blows (r : Nat) (b0 : Nat) (b1 : Nat) (b2 : Int32) (μ : gm_M) : Option (Option Value × gm_M) := if gm_tag μ r = 10 then f_X5_blows r b0 b1 b2 μ else if gm_tag μ r = 11 then f_X5_blows r b0 b1 b2 μ else if gm_tag μ r = 14 then f_X9_blows r b0 b1 b2 μ else if gm_tag μ r = 8 then f_X5_blows r b0 b1 b2 μ else if gm_tag μ r = 9 then f_X5_blows r b0 b1 b2 μ else if gm_tag μ r = 6 then f_X9_blows r b0 b1 b2 μ else if gm_tag μ r = 15 then f_X10_blows r b0 b1 b2 μ else none
theorem V_blows {own : String} {nm : gm_Nm} {cc : ByteArray} {nL : Nat} {rt : Option FieldType} {R : Room} {res : Option Value} {μe : gm_M} {β : Type} {k n : Nat} {μ : gm_M} {pc : Nat} {L : List (Nat × Value)} {st : List Value} {z : Option β} {κ : β → Prop} (r : Nat) (b0 : Nat) (b1 : Nat) (b2 : Int32) {index : Nat} {st0 : List Value} (hw1 : Jvm.Cond.methodLink own index ({ cls := "GumBubble$Plain", name := "blows", desc := "(LGumBubble$Rows;LGumBubble$Child;I)I" } : Jvm.MethodName) ∈ gm_G) (hfit : gm_fit R k n 0 0 4 4 = true) (hst : st0 = [.ref b0, .ref b1, .int b2].reverse ++ .ref r :: st) (hsm : gm_sum st = true) (hd : decode cc pc = .ok (.invokevirtual index, 3))
    (kk : gm_K2 own nm cc nL rt R res μe (k + 0) (n + 0) (pc + 3) L st (fv_blows r b0 b1 b2 μ) z κ) : gm_A own nm cc nL rt R res μe k n μ pc L st0 z κ := by
  unfold fv_blows at kk
  by_cases h5 : gm_tag μ r = 10
  · rw [if_pos h5] at kk
    exact gm_callV (k0 := 5) [.ref b0, .ref b1, .int b2] (c_X5_blows r b0 b1 b2 μ) h5 rfl B_X5_blows hw1 gw_802 (gm_fit_le hfit (Nat.le_of_ble_eq_true rfl) (Nat.le_of_ble_eq_true rfl)) hst hsm hd kk
  rw [if_neg h5] at kk
  by_cases h6 : gm_tag μ r = 11
  · rw [if_pos h6] at kk
    exact gm_callU (k0 := 6) [.ref b0, .ref b1, .int b2] (c_X5_blows r b0 b1 b2 μ) h6 rfl MH_5 NP_X5_blows B_X5_blows hw1 gw_803 gw_801 gw_820 gw_811 (gm_fit_le hfit (Nat.le_of_ble_eq_true rfl) (Nat.le_of_ble_eq_true rfl)) hst hsm hd kk
  rw [if_neg h6] at kk
  by_cases h9 : gm_tag μ r = 14
  · rw [if_pos h9] at kk
    exact gm_callU (k0 := 9) [.ref b0, .ref b1, .int b2] (c_X9_blows r b0 b1 b2 μ) h9 rfl MH_5 NP_X5_blows B_X9_blows hw1 gw_803 gw_801 gw_820 gw_812 (gm_fit_le hfit (Nat.le_of_ble_eq_true rfl) (Nat.le_of_ble_eq_true rfl)) hst hsm hd kk
  rw [if_neg h9] at kk
  by_cases h3 : gm_tag μ r = 8
  · rw [if_pos h3] at kk
    exact gm_callU (k0 := 3) [.ref b0, .ref b1, .int b2] (c_X5_blows r b0 b1 b2 μ) h3 rfl MH_5 NP_X5_blows B_X5_blows hw1 gw_803 gw_801 gw_820 gw_809 (gm_fit_le hfit (Nat.le_of_ble_eq_true rfl) (Nat.le_of_ble_eq_true rfl)) hst hsm hd kk
  rw [if_neg h3] at kk
  by_cases h4 : gm_tag μ r = 9
  · rw [if_pos h4] at kk
    exact gm_callU (k0 := 4) [.ref b0, .ref b1, .int b2] (c_X5_blows r b0 b1 b2 μ) h4 rfl MH_5 NP_X5_blows B_X5_blows hw1 gw_803 gw_801 gw_820 gw_810 (gm_fit_le hfit (Nat.le_of_ble_eq_true rfl) (Nat.le_of_ble_eq_true rfl)) hst hsm hd kk
  rw [if_neg h4] at kk
  by_cases h1 : gm_tag μ r = 6
  · rw [if_pos h1] at kk
    exact gm_callU (k0 := 1) [.ref b0, .ref b1, .int b2] (c_X9_blows r b0 b1 b2 μ) h1 rfl MH_5 NP_X5_blows B_X9_blows hw1 gw_803 gw_801 gw_820 gw_804 (gm_fit_le hfit (Nat.le_of_ble_eq_true rfl) (Nat.le_of_ble_eq_true rfl)) hst hsm hd kk
  rw [if_neg h1] at kk
  by_cases h10 : gm_tag μ r = 15
  · rw [if_pos h10] at kk
    exact gm_callU (k0 := 10) [.ref b0, .ref b1, .int b2] (c_X10_blows r b0 b1 b2 μ) h10 rfl MH_5 NP_X5_blows B_X10_blows hw1 gw_803 gw_801 gw_820 gw_813 (gm_fit_le hfit (Nat.le_of_ble_eq_true rfl) (Nat.le_of_ble_eq_true rfl)) hst hsm hd kk
  rw [if_neg h10] at kk
  obtain ⟨k0, -⟩ := kk
  rw [k0 rfl]
  exact gm_no
theorem d_X5_tells_0 : decode prog_7_method_7_code 0 = .ok (.aload_n 1, 1) := ge_aload_n_1 (by decide +kernel)
theorem d_X5_tells_1 : decode prog_7_method_7_code 1 = .ok (.iconst 3, 1) := ge_iconst_3 (by decide +kernel)
theorem d_X5_tells_2 : decode prog_7_method_7_code 2 = .ok (.iconst 0, 1) := ge_iconst_0 (by decide +kernel)
theorem d_X5_tells_3 : decode prog_7_method_7_code 3 = .ok (.iconst 0, 1) := ge_iconst_0 (by decide +kernel)
theorem d_X5_tells_4 : decode prog_7_method_7_code 4 = .ok (.invokevirtual 21, 3) := ge_invokevirtual (by decide +kernel)
theorem d_X5_tells_7 : decode prog_7_method_7_code 7 = .ok (.pop, 1) := ge_pop (by decide +kernel)
theorem d_X5_tells_8 : decode prog_7_method_7_code 8 = .ok (.aload_n 0, 1) := ge_aload_n_0 (by decide +kernel)
theorem d_X5_tells_9 : decode prog_7_method_7_code 9 = .ok (.aload_n 1, 1) := ge_aload_n_1 (by decide +kernel)
theorem d_X5_tells_10 : decode prog_7_method_7_code 10 = .ok (.aload_n 2, 1) := ge_aload_n_2 (by decide +kernel)
theorem d_X5_tells_11 : decode prog_7_method_7_code 11 = .ok (.iload_n 3, 1) := ge_iload_n_3 (by decide +kernel)
theorem d_X5_tells_12 : decode prog_7_method_7_code 12 = .ok (.invokevirtual 32, 3) := ge_invokevirtual (by decide +kernel)
theorem d_X5_tells_15 : decode prog_7_method_7_code 15 = .ok (.iconst 2, 1) := ge_iconst_2 (by decide +kernel)
theorem d_X5_tells_16 : decode prog_7_method_7_code 16 = .ok (.imul, 1) := ge_imul (by decide +kernel)
theorem d_X5_tells_17 : decode prog_7_method_7_code 17 = .ok (.ireturn, 1) := ge_ireturn (by decide +kernel)
def f_X5_tells (a0 : Nat) (a1 : Nat) (a2 : Nat) (a3 : Int32) (μ : gm_M) : Option (Option Value × gm_M) := if gm_tag μ a1 = 12 then gm_bI (f_X7_add a1 (3 : Int32) (0 : Int32) (0 : Int32) μ) (fun x2 m1 => gm_bI (fv_blows a0 a1 a2 a3 m1) (fun x4 m3 => some (some (.int (x4 * (2 : Int32))), m3))) else none
set_option maxHeartbeats 4000000 in
theorem c_X5_tells (a0 : Nat) (a1 : Nat) (a2 : Nat) (a3 : Int32) (μ : gm_M) : gm_Call ({ cls := "GumBubble$Plain", name := "tells", desc := "(LGumBubble$Rows;LGumBubble$Child;I)I" } : Jvm.MethodName) prog_7_method_7_code 4 (some .int) 5 0 0 [.ref a0, .ref a1, .ref a2, .int a3] μ (f_X5_tells a0 a1 a2 a3 μ) := by
  refine gm_start PN_5 (Nat.le_of_ble_eq_true rfl) (fun res μe => ?_)
  unfold f_X5_tells
  show gm_A "GumBubble$Plain" (gm_nm "tells") _ _ _ _ _ _ _ _ _ 0 [(0, .ref a0), (1, .ref a1), (2, .ref a2), (3, .int a3)] [] _ _
  refine gm_aload_n d_X5_tells_0 rfl 1 rfl ?_
  refine gm_iconst (v := 3) d_X5_tells_1 (by decide) ?_
  refine gm_iconst (v := 0) d_X5_tells_2 (by decide) ?_
  refine gm_iconst (v := 0) d_X5_tells_3 (by decide) ?_
  refine gm_grd (fun g4 => ?_)
  refine gm_callV (k0 := 7) [.int (3 : Int32), .int (0 : Int32), .int (0 : Int32)] (c_X7_add a1 (3 : Int32) (0 : Int32) (0 : Int32) μ) g4 rfl B_X7_add gw_799 gw_720 rfl rfl rfl d_X5_tells_4 (gm_kI (fun x2 m1 => ?_))
  refine gm_pop d_X5_tells_7 rfl ?_
  refine gm_aload_n d_X5_tells_8 rfl 0 rfl ?_
  refine gm_aload_n d_X5_tells_9 rfl 1 rfl ?_
  refine gm_aload_n d_X5_tells_10 rfl 2 rfl ?_
  refine gm_iload_n d_X5_tells_11 rfl 3 rfl ?_
  refine V_blows a0 a1 a2 a3 gw_847 rfl rfl rfl d_X5_tells_12 (gm_kI (fun x4 m3 => ?_))
  refine gm_iconst (v := 2) d_X5_tells_15 (by decide) ?_
  refine gm_imul d_X5_tells_16 ?_
  exact gm_iret rfl d_X5_tells_17 (Nat.le_of_ble_eq_true rfl) (Nat.le_of_ble_eq_true rfl) (fun h => h)
theorem d_X3_tells_0 : decode prog_5_method_4_code 0 = .ok (.aload_n 1, 1) := ge_aload_n_1 (by decide +kernel)
theorem d_X3_tells_1 : decode prog_5_method_4_code 1 = .ok (.bipush 31, 2) := ge_bipush (by decide +kernel)
theorem d_X3_tells_3 : decode prog_5_method_4_code 3 = .ok (.iconst 0, 1) := ge_iconst_0 (by decide +kernel)
theorem d_X3_tells_4 : decode prog_5_method_4_code 4 = .ok (.iconst 0, 1) := ge_iconst_0 (by decide +kernel)
theorem d_X3_tells_5 : decode prog_5_method_4_code 5 = .ok (.invokevirtual 23, 3) := ge_invokevirtual (by decide +kernel)
theorem d_X3_tells_8 : decode prog_5_method_4_code 8 = .ok (.pop, 1) := ge_pop (by decide +kernel)
theorem d_X3_tells_9 : decode prog_5_method_4_code 9 = .ok (.aload_n 0, 1) := ge_aload_n_0 (by decide +kernel)
theorem d_X3_tells_10 : decode prog_5_method_4_code 10 = .ok (.aload_n 1, 1) := ge_aload_n_1 (by decide +kernel)
theorem d_X3_tells_11 : decode prog_5_method_4_code 11 = .ok (.aload_n 2, 1) := ge_aload_n_2 (by decide +kernel)
theorem d_X3_tells_12 : decode prog_5_method_4_code 12 = .ok (.iload_n 3, 1) := ge_iload_n_3 (by decide +kernel)
theorem d_X3_tells_13 : decode prog_5_method_4_code 13 = .ok (.invokespecial 29, 3) := ge_invokespecial (by decide +kernel)
theorem d_X3_tells_16 : decode prog_5_method_4_code 16 = .ok (.bipush 7, 2) := ge_bipush (by decide +kernel)
theorem d_X3_tells_18 : decode prog_5_method_4_code 18 = .ok (.ixor, 1) := ge_ixor (by decide +kernel)
theorem d_X3_tells_19 : decode prog_5_method_4_code 19 = .ok (.ireturn, 1) := ge_ireturn (by decide +kernel)
def f_X3_tells (a0 : Nat) (a1 : Nat) (a2 : Nat) (a3 : Int32) (μ : gm_M) : Option (Option Value × gm_M) := if gm_tag μ a1 = 12 then gm_bI (f_X7_add a1 (31 : Int32) (0 : Int32) (0 : Int32) μ) (fun x2 m1 => if List.contains [8, 15] (gm_tag m1 a0) = true then gm_bI (f_X5_tells a0 a1 a2 a3 m1) (fun x4 m3 => some (some (.int (x4 ^^^ (7 : Int32))), m3)) else none) else none
set_option maxHeartbeats 4000000 in
theorem c_X3_tells (a0 : Nat) (a1 : Nat) (a2 : Nat) (a3 : Int32) (μ : gm_M) : gm_Call ({ cls := "GumBubble$Cold", name := "tells", desc := "(LGumBubble$Rows;LGumBubble$Child;I)I" } : Jvm.MethodName) prog_5_method_4_code 4 (some .int) 6 0 0 [.ref a0, .ref a1, .ref a2, .int a3] μ (f_X3_tells a0 a1 a2 a3 μ) := by
  refine gm_start PN_3 (Nat.le_of_ble_eq_true rfl) (fun res μe => ?_)
  unfold f_X3_tells
  show gm_A "GumBubble$Cold" (gm_nm "tells") _ _ _ _ _ _ _ _ _ 0 [(0, .ref a0), (1, .ref a1), (2, .ref a2), (3, .int a3)] [] _ _
  refine gm_aload_n d_X3_tells_0 rfl 1 rfl ?_
  refine gm_bipush (v := 31) d_X3_tells_1 (by decide) ?_
  refine gm_iconst (v := 0) d_X3_tells_3 (by decide) ?_
  refine gm_iconst (v := 0) d_X3_tells_4 (by decide) ?_
  refine gm_grd (fun g5 => ?_)
  refine gm_callV (k0 := 7) [.int (31 : Int32), .int (0 : Int32), .int (0 : Int32)] (c_X7_add a1 (31 : Int32) (0 : Int32) (0 : Int32) μ) g5 rfl B_X7_add gw_830 gw_720 rfl rfl rfl d_X3_tells_5 (gm_kI (fun x2 m1 => ?_))
  refine gm_pop d_X3_tells_8 rfl ?_
  refine gm_aload_n d_X3_tells_9 rfl 0 rfl ?_
  refine gm_aload_n d_X3_tells_10 rfl 1 rfl ?_
  refine gm_aload_n d_X3_tells_11 rfl 2 rfl ?_
  refine gm_iload_n d_X3_tells_12 rfl 3 rfl ?_
  refine gm_grd (fun g13 => ?_)
  refine gm_callSU [.ref a1, .ref a2, .int a3] (c_X5_tells a0 a1 a2 a3 m1) g13 Any_3 (by decide) B_X5_tells gw_831 gw_825 gw_86 rfl rfl rfl d_X3_tells_13 (gm_kI (fun x4 m3 => ?_))
  refine gm_bipush (v := 7) d_X3_tells_16 (by decide) ?_
  refine gm_ixor d_X3_tells_18 ?_
  exact gm_iret rfl d_X3_tells_19 (Nat.le_of_ble_eq_true rfl) (Nat.le_of_ble_eq_true rfl) (fun h => h)
theorem d_X4_tells_0 : decode prog_6_method_3_code 0 = .ok (.aload_n 1, 1) := ge_aload_n_1 (by decide +kernel)
theorem d_X4_tells_1 : decode prog_6_method_3_code 1 = .ok (.bipush 41, 2) := ge_bipush (by decide +kernel)
theorem d_X4_tells_3 : decode prog_6_method_3_code 3 = .ok (.iconst 0, 1) := ge_iconst_0 (by decide +kernel)
theorem d_X4_tells_4 : decode prog_6_method_3_code 4 = .ok (.iconst 0, 1) := ge_iconst_0 (by decide +kernel)
theorem d_X4_tells_5 : decode prog_6_method_3_code 5 = .ok (.invokevirtual 17, 3) := ge_invokevirtual (by decide +kernel)
theorem d_X4_tells_8 : decode prog_6_method_3_code 8 = .ok (.pop, 1) := ge_pop (by decide +kernel)
theorem d_X4_tells_9 : decode prog_6_method_3_code 9 = .ok (.aload_n 0, 1) := ge_aload_n_0 (by decide +kernel)
theorem d_X4_tells_10 : decode prog_6_method_3_code 10 = .ok (.aload_n 1, 1) := ge_aload_n_1 (by decide +kernel)
theorem d_X4_tells_11 : decode prog_6_method_3_code 11 = .ok (.aload_n 2, 1) := ge_aload_n_2 (by decide +kernel)
theorem d_X4_tells_12 : decode prog_6_method_3_code 12 = .ok (.iload_n 3, 1) := ge_iload_n_3 (by decide +kernel)
theorem d_X4_tells_13 : decode prog_6_method_3_code 13 = .ok (.iconst 1, 1) := ge_iconst_1 (by decide +kernel)
theorem d_X4_tells_14 : decode prog_6_method_3_code 14 = .ok (.isub, 1) := ge_isub (by decide +kernel)
theorem d_X4_tells_15 : decode prog_6_method_3_code 15 = .ok (.invokespecial 23, 3) := ge_invokespecial (by decide +kernel)
theorem d_X4_tells_18 : decode prog_6_method_3_code 18 = .ok (.aload_n 0, 1) := ge_aload_n_0 (by decide +kernel)
theorem d_X4_tells_19 : decode prog_6_method_3_code 19 = .ok (.aload_n 1, 1) := ge_aload_n_1 (by decide +kernel)
theorem d_X4_tells_20 : decode prog_6_method_3_code 20 = .ok (.aload_n 2, 1) := ge_aload_n_2 (by decide +kernel)
theorem d_X4_tells_21 : decode prog_6_method_3_code 21 = .ok (.iconst 2, 1) := ge_iconst_2 (by decide +kernel)
theorem d_X4_tells_22 : decode prog_6_method_3_code 22 = .ok (.invokevirtual 27, 3) := ge_invokevirtual (by decide +kernel)
theorem d_X4_tells_25 : decode prog_6_method_3_code 25 = .ok (.iadd, 1) := ge_iadd (by decide +kernel)
theorem d_X4_tells_26 : decode prog_6_method_3_code 26 = .ok (.ireturn, 1) := ge_ireturn (by decide +kernel)
def f_X4_tells (a0 : Nat) (a1 : Nat) (a2 : Nat) (a3 : Int32) (μ : gm_M) : Option (Option Value × gm_M) := if gm_tag μ a1 = 12 then gm_bI (f_X7_add a1 (41 : Int32) (0 : Int32) (0 : Int32) μ) (fun x2 m1 => if List.contains [9] (gm_tag m1 a0) = true then gm_bI (f_X5_tells a0 a1 a2 (a3 - (1 : Int32)) m1) (fun x4 m3 => if gm_tag m3 a0 = 9 then gm_bI (f_X6_chews a0 a1 a2 (2 : Int32) m3) (fun x6 m5 => some (some (.int (x4 + x6)), m5)) else none) else none) else none
set_option maxHeartbeats 4000000 in
theorem c_X4_tells (a0 : Nat) (a1 : Nat) (a2 : Nat) (a3 : Int32) (μ : gm_M) : gm_Call ({ cls := "GumBubble$Greedy", name := "tells", desc := "(LGumBubble$Rows;LGumBubble$Child;I)I" } : Jvm.MethodName) prog_6_method_3_code 4 (some .int) 6 0 0 [.ref a0, .ref a1, .ref a2, .int a3] μ (f_X4_tells a0 a1 a2 a3 μ) := by
  refine gm_start PN_4 (Nat.le_of_ble_eq_true rfl) (fun res μe => ?_)
  unfold f_X4_tells
  show gm_A "GumBubble$Greedy" (gm_nm "tells") _ _ _ _ _ _ _ _ _ 0 [(0, .ref a0), (1, .ref a1), (2, .ref a2), (3, .int a3)] [] _ _
  refine gm_aload_n d_X4_tells_0 rfl 1 rfl ?_
  refine gm_bipush (v := 41) d_X4_tells_1 (by decide) ?_
  refine gm_iconst (v := 0) d_X4_tells_3 (by decide) ?_
  refine gm_iconst (v := 0) d_X4_tells_4 (by decide) ?_
  refine gm_grd (fun g5 => ?_)
  refine gm_callV (k0 := 7) [.int (41 : Int32), .int (0 : Int32), .int (0 : Int32)] (c_X7_add a1 (41 : Int32) (0 : Int32) (0 : Int32) μ) g5 rfl B_X7_add gw_835 gw_720 rfl rfl rfl d_X4_tells_5 (gm_kI (fun x2 m1 => ?_))
  refine gm_pop d_X4_tells_8 rfl ?_
  refine gm_aload_n d_X4_tells_9 rfl 0 rfl ?_
  refine gm_aload_n d_X4_tells_10 rfl 1 rfl ?_
  refine gm_aload_n d_X4_tells_11 rfl 2 rfl ?_
  refine gm_iload_n d_X4_tells_12 rfl 3 rfl ?_
  refine gm_iconst (v := 1) d_X4_tells_13 (by decide) ?_
  refine gm_isub d_X4_tells_14 ?_
  refine gm_grd (fun g15 => ?_)
  refine gm_callSU2 (C1 := "GumBubble$Quick") [.ref a1, .ref a2, .int (a3 - (1 : Int32))] (c_X5_tells a0 a1 a2 (a3 - (1 : Int32)) m1) g15 Any_4 (by decide) B_X5_tells gw_836 gw_837 gw_94 gw_70 rfl rfl rfl d_X4_tells_15 (gm_kI (fun x4 m3 => ?_))
  refine gm_aload_n d_X4_tells_18 rfl 0 rfl ?_
  refine gm_aload_n d_X4_tells_19 rfl 1 rfl ?_
  refine gm_aload_n d_X4_tells_20 rfl 2 rfl ?_
  refine gm_iconst (v := 2) d_X4_tells_21 (by decide) ?_
  refine gm_grd (fun g22 => ?_)
  refine gm_callU (k0 := 4) [.ref a1, .ref a2, .int (2 : Int32)] (c_X6_chews a0 a1 a2 (2 : Int32) m3) g22 rfl MH_6 (show gm_nP ⟨"GumBubble$Greedy", "chews", "(LGumBubble$Rows;LGumBubble$Child;I)I"⟩ _ from NP_X6_chews) B_X6_chews gw_839 gw_840 gw_791 gw_792 gw_842 rfl rfl rfl d_X4_tells_22 (gm_kI (fun x6 m5 => ?_))
  refine gm_iadd d_X4_tells_25 ?_
  exact gm_iret rfl d_X4_tells_26 (Nat.le_of_ble_eq_true rfl) (Nat.le_of_ble_eq_true rfl) (fun h => h)
theorem d_X7_clear_0 : decode prog_9_method_6_code 0 = .ok (.aload_n 0, 1) := ge_aload_n_0 (by decide +kernel)
theorem d_X7_clear_1 : decode prog_9_method_6_code 1 = .ok (.iconst 0, 1) := ge_iconst_0 (by decide +kernel)
theorem d_X7_clear_2 : decode prog_9_method_6_code 2 = .ok (.putfield 23, 3) := ge_putfield (by decide +kernel)
theorem d_X7_clear_5 : decode prog_9_method_6_code 5 = .ok (.iconst 0, 1) := ge_iconst_0 (by decide +kernel)
theorem d_X7_clear_6 : decode prog_9_method_6_code 6 = .ok (.ireturn, 1) := ge_ireturn (by decide +kernel)
def f_X7_clear (a0 : Nat) (μ : gm_M) : Option (Option Value × gm_M) := gm_pI μ [12] a0 2 (0 : Int32) (fun m1 => some (some (.int (0 : Int32)), m1))
set_option maxHeartbeats 4000000 in
theorem c_X7_clear (a0 : Nat) (μ : gm_M) : gm_Call ({ cls := "GumBubble$Rows", name := "clear", desc := "()I" } : Jvm.MethodName) prog_9_method_6_code 1 (some .int) 0 0 0 [.ref a0] μ (f_X7_clear a0 μ) := by
  refine gm_start PN_7 (Nat.le_of_ble_eq_true rfl) (fun res μe => ?_)
  unfold f_X7_clear
  show gm_A "GumBubble$Rows" (gm_nm "clear") _ _ _ _ _ _ _ _ _ 0 [(0, .ref a0)] [] _ _
  refine gm_aload_n d_X7_clear_0 rfl 0 rfl ?_
  refine gm_iconst (v := 0) d_X7_clear_1 (by decide) ?_
  refine gm_putI F_7_count (Or.inl rfl) gw_42 d_X7_clear_2 (fun m1 _ => ?_)
  refine gm_iconst (v := 0) d_X7_clear_5 (by decide) ?_
  exact gm_iret rfl d_X7_clear_6 (Nat.le_of_ble_eq_true rfl) (Nat.le_of_ble_eq_true rfl) (fun h => h)
def fv_tells (r : Nat) (b0 : Nat) (b1 : Nat) (b2 : Int32) (μ : gm_M) : Option (Option Value × gm_M) := if gm_tag μ r = 10 then f_X5_tells r b0 b1 b2 μ else if gm_tag μ r = 11 then f_X5_tells r b0 b1 b2 μ else if gm_tag μ r = 14 then f_X5_tells r b0 b1 b2 μ else if gm_tag μ r = 8 then f_X3_tells r b0 b1 b2 μ else if gm_tag μ r = 9 then f_X4_tells r b0 b1 b2 μ else if gm_tag μ r = 6 then f_X5_tells r b0 b1 b2 μ else if gm_tag μ r = 15 then f_X3_tells r b0 b1 b2 μ else none
theorem V_tells {own : String} {nm : gm_Nm} {cc : ByteArray} {nL : Nat} {rt : Option FieldType} {R : Room} {res : Option Value} {μe : gm_M} {β : Type} {k n : Nat} {μ : gm_M} {pc : Nat} {L : List (Nat × Value)} {st : List Value} {z : Option β} {κ : β → Prop} (r : Nat) (b0 : Nat) (b1 : Nat) (b2 : Int32) {index : Nat} {st0 : List Value} (hw1 : Jvm.Cond.methodLink own index ({ cls := "GumBubble$Plain", name := "tells", desc := "(LGumBubble$Rows;LGumBubble$Child;I)I" } : Jvm.MethodName) ∈ gm_G) (hfit : gm_fit R k n 0 0 6 4 = true) (hst : st0 = [.ref b0, .ref b1, .int b2].reverse ++ .ref r :: st) (hsm : gm_sum st = true) (hd : decode cc pc = .ok (.invokevirtual index, 3))
    (kk : gm_K2 own nm cc nL rt R res μe (k + 0) (n + 0) (pc + 3) L st (fv_tells r b0 b1 b2 μ) z κ) : gm_A own nm cc nL rt R res μe k n μ pc L st0 z κ := by
  unfold fv_tells at kk
  by_cases h5 : gm_tag μ r = 10
  · rw [if_pos h5] at kk
    exact gm_callV (k0 := 5) [.ref b0, .ref b1, .int b2] (c_X5_tells r b0 b1 b2 μ) h5 rfl B_X5_tells hw1 gw_824 (gm_fit_le hfit (Nat.le_of_ble_eq_true rfl) (Nat.le_of_ble_eq_true rfl)) hst hsm hd kk
  rw [if_neg h5] at kk
  by_cases h6 : gm_tag μ r = 11
  · rw [if_pos h6] at kk
    exact gm_callU (k0 := 6) [.ref b0, .ref b1, .int b2] (c_X5_tells r b0 b1 b2 μ) h6 rfl MH_5 NP_X5_tells B_X5_tells hw1 gw_825 gw_823 gw_846 gw_843 (gm_fit_le hfit (Nat.le_of_ble_eq_true rfl) (Nat.le_of_ble_eq_true rfl)) hst hsm hd kk
  rw [if_neg h6] at kk
  by_cases h9 : gm_tag μ r = 14
  · rw [if_pos h9] at kk
    exact gm_callU (k0 := 9) [.ref b0, .ref b1, .int b2] (c_X5_tells r b0 b1 b2 μ) h9 rfl MH_5 NP_X5_tells B_X5_tells hw1 gw_825 gw_823 gw_846 gw_844 (gm_fit_le hfit (Nat.le_of_ble_eq_true rfl) (Nat.le_of_ble_eq_true rfl)) hst hsm hd kk
  rw [if_neg h9] at kk
  by_cases h3 : gm_tag μ r = 8
  · rw [if_pos h3] at kk
    exact gm_callU (k0 := 3) [.ref b0, .ref b1, .int b2] (c_X3_tells r b0 b1 b2 μ) h3 rfl MH_5 NP_X5_tells B_X3_tells hw1 gw_825 gw_823 gw_846 gw_827 (gm_fit_le hfit (Nat.le_of_ble_eq_true rfl) (Nat.le_of_ble_eq_true rfl)) hst hsm hd kk
  rw [if_neg h3] at kk
  by_cases h4 : gm_tag μ r = 9
  · rw [if_pos h4] at kk
    exact gm_callU (k0 := 4) [.ref b0, .ref b1, .int b2] (c_X4_tells r b0 b1 b2 μ) h4 rfl MH_5 NP_X5_tells B_X4_tells hw1 gw_825 gw_823 gw_846 gw_832 (gm_fit_le hfit (Nat.le_of_ble_eq_true rfl) (Nat.le_of_ble_eq_true rfl)) hst hsm hd kk
  rw [if_neg h4] at kk
  by_cases h1 : gm_tag μ r = 6
  · rw [if_pos h1] at kk
    exact gm_callU (k0 := 1) [.ref b0, .ref b1, .int b2] (c_X5_tells r b0 b1 b2 μ) h1 rfl MH_5 NP_X5_tells B_X5_tells hw1 gw_825 gw_823 gw_846 gw_826 (gm_fit_le hfit (Nat.le_of_ble_eq_true rfl) (Nat.le_of_ble_eq_true rfl)) hst hsm hd kk
  rw [if_neg h1] at kk
  by_cases h10 : gm_tag μ r = 15
  · rw [if_pos h10] at kk
    exact gm_callU (k0 := 10) [.ref b0, .ref b1, .int b2] (c_X3_tells r b0 b1 b2 μ) h10 rfl MH_5 NP_X5_tells B_X3_tells hw1 gw_825 gw_823 gw_846 gw_845 (gm_fit_le hfit (Nat.le_of_ble_eq_true rfl) (Nat.le_of_ble_eq_true rfl)) hst hsm hd kk
  rw [if_neg h10] at kk
  obtain ⟨k0, -⟩ := kk
  rw [k0 rfl]
  exact gm_no
theorem d_X11_act_0 : decode prog_1_method_33_code 0 = .ok (.aload_n 0, 1) := ge_aload_n_0 (by decide +kernel)
theorem d_X11_act_1 : decode prog_1_method_33_code 1 = .ok (.getfield 22, 3) := ge_getfield (by decide +kernel)
theorem d_X11_act_4 : decode prog_1_method_33_code 4 = .ok (.invokevirtual 236, 3) := ge_invokevirtual (by decide +kernel)
theorem d_X11_act_7 : decode prog_1_method_33_code 7 = .ok (.pop, 1) := ge_pop (by decide +kernel)
theorem d_X11_act_8 : decode prog_1_method_33_code 8 = .ok (.aload_n 0, 1) := ge_aload_n_0 (by decide +kernel)
theorem d_X11_act_9 : decode prog_1_method_33_code 9 = .ok (.iload_n 1, 1) := ge_iload_n_1 (by decide +kernel)
theorem d_X11_act_10 : decode prog_1_method_33_code 10 = .ok (.invokevirtual 115, 3) := ge_invokevirtual (by decide +kernel)
theorem d_X11_act_13 : decode prog_1_method_33_code 13 = .ok (.ifCond .eq 5, 3) := ge_ifCond_eq (by decide +kernel)
theorem d_X11_act_16 : decode prog_1_method_33_code 16 = .ok (.iconst 0, 1) := ge_iconst_0 (by decide +kernel)
theorem d_X11_act_17 : decode prog_1_method_33_code 17 = .ok (.ireturn, 1) := ge_ireturn (by decide +kernel)
theorem d_X11_act_18 : decode prog_1_method_33_code 18 = .ok (.aload_n 0, 1) := ge_aload_n_0 (by decide +kernel)
theorem d_X11_act_19 : decode prog_1_method_33_code 19 = .ok (.getfield 60, 3) := ge_getfield (by decide +kernel)
theorem d_X11_act_22 : decode prog_1_method_33_code 22 = .ok (.getfield 104, 3) := ge_getfield (by decide +kernel)
theorem d_X11_act_25 : decode prog_1_method_33_code 25 = .ok (.iload_n 1, 1) := ge_iload_n_1 (by decide +kernel)
theorem d_X11_act_26 : decode prog_1_method_33_code 26 = .ok (.aaload, 1) := ge_aaload (by decide +kernel)
theorem d_X11_act_27 : decode prog_1_method_33_code 27 = .ok (.astore 4, 2) := ge_astore (by decide +kernel)
theorem d_X11_act_29 : decode prog_1_method_33_code 29 = .ok (.iload_n 2, 1) := ge_iload_n_2 (by decide +kernel)
theorem d_X11_act_30 : decode prog_1_method_33_code 30 = .ok (.tableswitch 74 0 2 #[26, 42, 58], 26) := by decide +kernel
theorem d_X11_act_56 : decode prog_1_method_33_code 56 = .ok (.aload 4, 2) := ge_aload (by decide +kernel)
theorem d_X11_act_58 : decode prog_1_method_33_code 58 = .ok (.getfield 119, 3) := ge_getfield (by decide +kernel)
theorem d_X11_act_61 : decode prog_1_method_33_code 61 = .ok (.aload_n 0, 1) := ge_aload_n_0 (by decide +kernel)
theorem d_X11_act_62 : decode prog_1_method_33_code 62 = .ok (.getfield 22, 3) := ge_getfield (by decide +kernel)
theorem d_X11_act_65 : decode prog_1_method_33_code 65 = .ok (.aload 4, 2) := ge_aload (by decide +kernel)
theorem d_X11_act_67 : decode prog_1_method_33_code 67 = .ok (.iload_n 3, 1) := ge_iload_n_3 (by decide +kernel)
theorem d_X11_act_68 : decode prog_1_method_33_code 68 = .ok (.invokevirtual 265, 3) := ge_invokevirtual (by decide +kernel)
theorem d_X11_act_71 : decode prog_1_method_33_code 71 = .ok (.ireturn, 1) := ge_ireturn (by decide +kernel)
theorem d_X11_act_72 : decode prog_1_method_33_code 72 = .ok (.aload 4, 2) := ge_aload (by decide +kernel)
theorem d_X11_act_74 : decode prog_1_method_33_code 74 = .ok (.getfield 119, 3) := ge_getfield (by decide +kernel)
theorem d_X11_act_77 : decode prog_1_method_33_code 77 = .ok (.aload_n 0, 1) := ge_aload_n_0 (by decide +kernel)
theorem d_X11_act_78 : decode prog_1_method_33_code 78 = .ok (.getfield 22, 3) := ge_getfield (by decide +kernel)
theorem d_X11_act_81 : decode prog_1_method_33_code 81 = .ok (.aload 4, 2) := ge_aload (by decide +kernel)
theorem d_X11_act_83 : decode prog_1_method_33_code 83 = .ok (.iload_n 3, 1) := ge_iload_n_3 (by decide +kernel)
theorem d_X11_act_84 : decode prog_1_method_33_code 84 = .ok (.invokevirtual 269, 3) := ge_invokevirtual (by decide +kernel)
theorem d_X11_act_87 : decode prog_1_method_33_code 87 = .ok (.ireturn, 1) := ge_ireturn (by decide +kernel)
theorem d_X11_act_88 : decode prog_1_method_33_code 88 = .ok (.aload 4, 2) := ge_aload (by decide +kernel)
theorem d_X11_act_90 : decode prog_1_method_33_code 90 = .ok (.getfield 119, 3) := ge_getfield (by decide +kernel)
theorem d_X11_act_93 : decode prog_1_method_33_code 93 = .ok (.aload_n 0, 1) := ge_aload_n_0 (by decide +kernel)
theorem d_X11_act_94 : decode prog_1_method_33_code 94 = .ok (.getfield 22, 3) := ge_getfield (by decide +kernel)
theorem d_X11_act_97 : decode prog_1_method_33_code 97 = .ok (.aload 4, 2) := ge_aload (by decide +kernel)
theorem d_X11_act_99 : decode prog_1_method_33_code 99 = .ok (.iload_n 3, 1) := ge_iload_n_3 (by decide +kernel)
theorem d_X11_act_100 : decode prog_1_method_33_code 100 = .ok (.invokevirtual 272, 3) := ge_invokevirtual (by decide +kernel)
theorem d_X11_act_103 : decode prog_1_method_33_code 103 = .ok (.ireturn, 1) := ge_ireturn (by decide +kernel)
theorem d_X11_act_104 : decode prog_1_method_33_code 104 = .ok (.iconst 0, 1) := ge_iconst_0 (by decide +kernel)
theorem d_X11_act_105 : decode prog_1_method_33_code 105 = .ok (.ireturn, 1) := ge_ireturn (by decide +kernel)
def f_X11_act (a0 : Nat) (a1 : Int32) (a2 : Int32) (a3 : Int32) (μ : gm_M) : Option (Option Value × gm_M) := gm_gR μ [16] a0 4 (fun v1 => if gm_tag μ v1 = 12 then gm_bI (f_X7_clear v1 μ) (fun x3 m2 => if gm_tag m2 a0 = 16 then gm_bI (f_X11_isNobody a0 a1 m2) (fun x5 m4 => if x5 = 0 then gm_gR m4 [16] a0 1 (fun v6 => gm_gR m4 [13] v6 2 (fun v7 => gm_aR m4 4 v7 a1 (fun v8 => if a2 = 0 then gm_gR m4 [7] v8 1 (fun v9 => gm_gR m4 [16] a0 4 (fun v10 => gm_bI (fv_chews v9 v10 v8 a3 m4) (fun x12 m11 => some (some (.int x12), m11)))) else if a2 = 1 then gm_gR m4 [7] v8 1 (fun v13 => gm_gR m4 [16] a0 4 (fun v14 => gm_bI (fv_blows v13 v14 v8 a3 m4) (fun x16 m15 => some (some (.int x16), m15)))) else if a2 = 2 then gm_gR m4 [7] v8 1 (fun v17 => gm_gR m4 [16] a0 4 (fun v18 => gm_bI (fv_tells v17 v18 v8 a3 m4) (fun x20 m19 => some (some (.int x20), m19)))) else some (some (.int (0 : Int32)), m4)))) else some (some (.int (0 : Int32)), m4)) else none) else none)
set_option maxHeartbeats 4000000 in
theorem c_X11_act (a0 : Nat) (a1 : Int32) (a2 : Int32) (a3 : Int32) (μ : gm_M) : gm_Call ({ cls := "GumBubble", name := "act", desc := "(III)I" } : Jvm.MethodName) prog_1_method_33_code 5 (some .int) 7 0 0 [.ref a0, .int a1, .int a2, .int a3] μ (f_X11_act a0 a1 a2 a3 μ) := by
  refine gm_start PN_11 (Nat.le_of_ble_eq_true rfl) (fun res μe => ?_)
  unfold f_X11_act
  show gm_A "GumBubble" (gm_nm "act") _ _ _ _ _ _ _ _ _ 0 [(0, .ref a0), (1, .int a1), (2, .int a2), (3, .int a3)] [] _ _
  refine gm_aload_n d_X11_act_0 rfl 0 rfl ?_
  refine gm_getR F_11_trace gw_265 d_X11_act_1 (fun v1 _ => ?_)
  refine gm_grd (fun g4 => ?_)
  refine gm_callV (k0 := 7) [] (c_X7_clear v1 μ) g4 rfl B_X7_clear gw_710 gw_712 rfl rfl rfl d_X11_act_4 (gm_kI (fun x3 m2 => ?_))
  refine gm_pop d_X11_act_7 rfl ?_
  refine gm_aload_n d_X11_act_8 rfl 0 rfl ?_
  refine gm_iload_n d_X11_act_9 rfl 1 rfl ?_
  refine gm_grd (fun g10 => ?_)
  refine gm_callV (k0 := 11) [.int a1] (c_X11_isNobody a0 a1 m2) g10 rfl B_X11_isNobody gw_478 gs_11 rfl rfl rfl d_X11_act_10 (gm_kI (fun x5 m4 => ?_))
  refine gm_if_eq (tgt := 18) d_X11_act_13 (by decide) (fun h13 => ?_) (fun h13 => ?_)
  ·
    refine gm_aload_n d_X11_act_18 rfl 0 rfl ?_
    refine gm_getR F_11_now gw_262 d_X11_act_19 (fun v6 _ => ?_)
    refine gm_getR F_8_children gw_223 d_X11_act_22 (fun v7 _ => ?_)
    refine gm_iload_n d_X11_act_25 rfl 1 rfl ?_
    refine gm_aald (Or.inr rfl) d_X11_act_26 (fun v8 _ => ?_)
    refine gm_astore (L' := [(4, .ref v8), (0, .ref a0), (1, .int a1), (2, .int a2), (3, .int a3)]) d_X11_act_27 (Nat.le_of_ble_eq_true rfl) rfl ?_
    refine gm_iload_n d_X11_act_29 rfl 3 rfl ?_
    refine gm_ite (P := a2 = 0) (fun h30_0 => ?_) (fun h30_0 => ?_)
    ·
      refine gm_swIn (v := 0) (off := 26) (tgt := 56) d_X11_act_30 (by rw [h30_0] <;> rfl) (by decide) (by decide) (by decide) (by decide) ?_
      refine gm_aload d_X11_act_56 0 rfl ?_
      refine gm_getR F_2_kind gw_172 d_X11_act_58 (fun v9 _ => ?_)
      refine gm_aload_n d_X11_act_61 rfl 1 rfl ?_
      refine gm_getR F_11_trace gw_265 d_X11_act_62 (fun v10 _ => ?_)
      refine gm_aload d_X11_act_65 0 rfl ?_
      refine gm_iload_n d_X11_act_67 rfl 4 rfl ?_
      refine V_chews v9 v10 v8 a3 gw_778 rfl rfl rfl d_X11_act_68 (gm_kI (fun x12 m11 => ?_))
      exact gm_iret rfl d_X11_act_71 (Nat.le_of_ble_eq_true rfl) (Nat.le_of_ble_eq_true rfl) (fun h => h)
    ·
      refine gm_ite (P := a2 = 1) (fun h30_1 => ?_) (fun h30_1 => ?_)
      ·
        refine gm_swIn (v := 1) (off := 42) (tgt := 72) d_X11_act_30 (by rw [h30_1] <;> rfl) (by decide) (by decide) (by decide) (by decide) ?_
        refine gm_aload d_X11_act_72 0 rfl ?_
        refine gm_getR F_2_kind gw_172 d_X11_act_74 (fun v13 _ => ?_)
        refine gm_aload_n d_X11_act_77 rfl 1 rfl ?_
        refine gm_getR F_11_trace gw_265 d_X11_act_78 (fun v14 _ => ?_)
        refine gm_aload d_X11_act_81 0 rfl ?_
        refine gm_iload_n d_X11_act_83 rfl 4 rfl ?_
        refine V_blows v13 v14 v8 a3 gw_800 rfl rfl rfl d_X11_act_84 (gm_kI (fun x16 m15 => ?_))
        exact gm_iret rfl d_X11_act_87 (Nat.le_of_ble_eq_true rfl) (Nat.le_of_ble_eq_true rfl) (fun h => h)
      ·
        refine gm_ite (P := a2 = 2) (fun h30_2 => ?_) (fun h30_2 => ?_)
        ·
          refine gm_swIn (v := 2) (off := 58) (tgt := 88) d_X11_act_30 (by rw [h30_2] <;> rfl) (by decide) (by decide) (by decide) (by decide) ?_
          refine gm_aload d_X11_act_88 0 rfl ?_
          refine gm_getR F_2_kind gw_172 d_X11_act_90 (fun v17 _ => ?_)
          refine gm_aload_n d_X11_act_93 rfl 1 rfl ?_
          refine gm_getR F_11_trace gw_265 d_X11_act_94 (fun v18 _ => ?_)
          refine gm_aload d_X11_act_97 0 rfl ?_
          refine gm_iload_n d_X11_act_99 rfl 4 rfl ?_
          refine V_tells v17 v18 v8 a3 gw_822 rfl rfl rfl d_X11_act_100 (gm_kI (fun x20 m19 => ?_))
          exact gm_iret rfl d_X11_act_103 (Nat.le_of_ble_eq_true rfl) (Nat.le_of_ble_eq_true rfl) (fun h => h)
        ·
          refine gm_swOut (tgt := 104) d_X11_act_30 (by have g0 := lv_neT h30_0 (show (0 : Int32).toInt = 0 from rfl); have g1 := lv_neT h30_1 (show (1 : Int32).toInt = 1 from rfl); have g2 := lv_neT h30_2 (show (2 : Int32).toInt = 2 from rfl); omega) (by decide) ?_
          refine gm_iconst (v := 0) d_X11_act_104 (by decide) ?_
          exact gm_iret rfl d_X11_act_105 (Nat.le_of_ble_eq_true rfl) (Nat.le_of_ble_eq_true rfl) (fun h => h)
  ·
    refine gm_iconst (v := 0) d_X11_act_16 (by decide) ?_
    exact gm_iret rfl d_X11_act_17 (Nat.le_of_ble_eq_true rfl) (Nat.le_of_ble_eq_true rfl) (fun h => h)
theorem d_X11_afternoon_0 : decode prog_1_method_3_code 0 = .ok (.aload_n 0, 1) := ge_aload_n_0 (by decide +kernel)
theorem d_X11_afternoon_1 : decode prog_1_method_3_code 1 = .ok (.getfield 60, 3) := ge_getfield (by decide +kernel)
theorem d_X11_afternoon_4 : decode prog_1_method_3_code 4 = .ok (.getfield 87, 3) := ge_getfield (by decide +kernel)
theorem d_X11_afternoon_7 : decode prog_1_method_3_code 7 = .ok (.iconst 5, 1) := ge_iconst_5 (by decide +kernel)
theorem d_X11_afternoon_8 : decode prog_1_method_3_code 8 = .ok (.if_icmp .lt 6, 3) := ge_if_icmp_lt (by decide +kernel)
theorem d_X11_afternoon_11 : decode prog_1_method_3_code 11 = .ok (.bipush (-4), 2) := ge_bipush (by decide +kernel)
theorem d_X11_afternoon_13 : decode prog_1_method_3_code 13 = .ok (.ireturn, 1) := ge_ireturn (by decide +kernel)
theorem d_X11_afternoon_14 : decode prog_1_method_3_code 14 = .ok (.new 90, 3) := ge_new (by decide +kernel)
theorem d_X11_afternoon_17 : decode prog_1_method_3_code 17 = .ok (.dup, 1) := ge_dup (by decide +kernel)
theorem d_X11_afternoon_18 : decode prog_1_method_3_code 18 = .ok (.invokespecial 92, 3) := ge_invokespecial (by decide +kernel)
theorem d_X11_afternoon_21 : decode prog_1_method_3_code 21 = .ok (.astore_n 1, 1) := ge_astore_n_1 (by decide +kernel)
theorem d_X11_afternoon_22 : decode prog_1_method_3_code 22 = .ok (.aload_n 1, 1) := ge_aload_n_1 (by decide +kernel)
theorem d_X11_afternoon_23 : decode prog_1_method_3_code 23 = .ok (.aload_n 0, 1) := ge_aload_n_0 (by decide +kernel)
theorem d_X11_afternoon_24 : decode prog_1_method_3_code 24 = .ok (.getfield 60, 3) := ge_getfield (by decide +kernel)
theorem d_X11_afternoon_27 : decode prog_1_method_3_code 27 = .ok (.getfield 84, 3) := ge_getfield (by decide +kernel)
theorem d_X11_afternoon_30 : decode prog_1_method_3_code 30 = .ok (.aload_n 0, 1) := ge_aload_n_0 (by decide +kernel)
theorem d_X11_afternoon_31 : decode prog_1_method_3_code 31 = .ok (.getfield 60, 3) := ge_getfield (by decide +kernel)
theorem d_X11_afternoon_34 : decode prog_1_method_3_code 34 = .ok (.getfield 80, 3) := ge_getfield (by decide +kernel)
theorem d_X11_afternoon_37 : decode prog_1_method_3_code 37 = .ok (.invokevirtual 93, 3) := ge_invokevirtual (by decide +kernel)
theorem d_X11_afternoon_40 : decode prog_1_method_3_code 40 = .ok (.istore_n 2, 1) := ge_istore_n_2 (by decide +kernel)
theorem d_X11_afternoon_41 : decode prog_1_method_3_code 41 = .ok (.aload_n 0, 1) := ge_aload_n_0 (by decide +kernel)
theorem d_X11_afternoon_42 : decode prog_1_method_3_code 42 = .ok (.getfield 60, 3) := ge_getfield (by decide +kernel)
theorem d_X11_afternoon_45 : decode prog_1_method_3_code 45 = .ok (.iconst 0, 1) := ge_iconst_0 (by decide +kernel)
theorem d_X11_afternoon_46 : decode prog_1_method_3_code 46 = .ok (.putfield 80, 3) := ge_putfield (by decide +kernel)
theorem d_X11_afternoon_49 : decode prog_1_method_3_code 49 = .ok (.iload_n 2, 1) := ge_iload_n_2 (by decide +kernel)
theorem d_X11_afternoon_50 : decode prog_1_method_3_code 50 = .ok (.ifCond .lt 8, 3) := ge_ifCond_lt (by decide +kernel)
theorem d_X11_afternoon_53 : decode prog_1_method_3_code 53 = .ok (.bipush (-10), 2) := ge_bipush (by decide +kernel)
theorem d_X11_afternoon_55 : decode prog_1_method_3_code 55 = .ok (.iload_n 2, 1) := ge_iload_n_2 (by decide +kernel)
theorem d_X11_afternoon_56 : decode prog_1_method_3_code 56 = .ok (.isub, 1) := ge_isub (by decide +kernel)
theorem d_X11_afternoon_57 : decode prog_1_method_3_code 57 = .ok (.ireturn, 1) := ge_ireturn (by decide +kernel)
theorem d_X11_afternoon_58 : decode prog_1_method_3_code 58 = .ok (.aload_n 0, 1) := ge_aload_n_0 (by decide +kernel)
theorem d_X11_afternoon_59 : decode prog_1_method_3_code 59 = .ok (.getfield 60, 3) := ge_getfield (by decide +kernel)
theorem d_X11_afternoon_62 : decode prog_1_method_3_code 62 = .ok (.aload_n 1, 1) := ge_aload_n_1 (by decide +kernel)
theorem d_X11_afternoon_63 : decode prog_1_method_3_code 63 = .ok (.putfield 97, 3) := ge_putfield (by decide +kernel)
theorem d_X11_afternoon_66 : decode prog_1_method_3_code 66 = .ok (.aload_n 0, 1) := ge_aload_n_0 (by decide +kernel)
theorem d_X11_afternoon_67 : decode prog_1_method_3_code 67 = .ok (.getfield 60, 3) := ge_getfield (by decide +kernel)
theorem d_X11_afternoon_70 : decode prog_1_method_3_code 70 = .ok (.dup, 1) := ge_dup (by decide +kernel)
theorem d_X11_afternoon_71 : decode prog_1_method_3_code 71 = .ok (.getfield 87, 3) := ge_getfield (by decide +kernel)
theorem d_X11_afternoon_74 : decode prog_1_method_3_code 74 = .ok (.iconst 1, 1) := ge_iconst_1 (by decide +kernel)
theorem d_X11_afternoon_75 : decode prog_1_method_3_code 75 = .ok (.iadd, 1) := ge_iadd (by decide +kernel)
theorem d_X11_afternoon_76 : decode prog_1_method_3_code 76 = .ok (.putfield 87, 3) := ge_putfield (by decide +kernel)
theorem d_X11_afternoon_79 : decode prog_1_method_3_code 79 = .ok (.aload_n 0, 1) := ge_aload_n_0 (by decide +kernel)
theorem d_X11_afternoon_80 : decode prog_1_method_3_code 80 = .ok (.getfield 60, 3) := ge_getfield (by decide +kernel)
theorem d_X11_afternoon_83 : decode prog_1_method_3_code 83 = .ok (.getfield 87, 3) := ge_getfield (by decide +kernel)
theorem d_X11_afternoon_86 : decode prog_1_method_3_code 86 = .ok (.iconst 1, 1) := ge_iconst_1 (by decide +kernel)
theorem d_X11_afternoon_87 : decode prog_1_method_3_code 87 = .ok (.isub, 1) := ge_isub (by decide +kernel)
theorem d_X11_afternoon_88 : decode prog_1_method_3_code 88 = .ok (.ireturn, 1) := ge_ireturn (by decide +kernel)
def f_X11_afternoon (a0 : Nat) (μ : gm_M) : Option (Option Value × gm_M) := gm_gR μ [16] a0 1 (fun v1 => gm_gI μ [13] v1 5 (fun v2 => if v2 < (5 : Int32) then gm_mk μ 5 10 (fun q3 m4 => if gm_tag m4 q3 ≠ 0 then gm_bV (f_X0_init q3 m4) (fun m5 => gm_gR m5 [16] a0 1 (fun v7 => gm_gR m5 [13] v7 3 (fun v8 => gm_gR m5 [16] a0 1 (fun v9 => gm_gI m5 [13] v9 4 (fun v10 => if gm_tag m5 q3 = 5 then gm_bI (f_X0_read q3 v8 v10 m5) (fun x12 m11 => gm_gR m11 [16] a0 1 (fun v13 => gm_pI m11 [13] v13 4 (0 : Int32) (fun m14 => if x12 < 0 then gm_gR m14 [16] a0 1 (fun v15 => gm_pR m14 [13] v15 6 q3 (fun m16 => gm_gR m16 [16] a0 1 (fun v17 => gm_gI m16 [13] v17 5 (fun v18 => gm_pI m16 [13] v17 5 (v18 + (1 : Int32)) (fun m19 => gm_gR m19 [16] a0 1 (fun v20 => gm_gI m19 [13] v20 5 (fun v21 => some (some (.int (v21 - (1 : Int32))), m19)))))))) else some (some (.int ((-10 : Int32) - x12)), m14)))) else none))))) else none) else some (some (.int (-4 : Int32)), μ)))
set_option maxHeartbeats 4000000 in
theorem c_X11_afternoon (a0 : Nat) (μ : gm_M) : gm_Call ({ cls := "GumBubble", name := "afternoon", desc := "()I" } : Jvm.MethodName) prog_1_method_3_code 3 (some .int) 73 5 130 [.ref a0] μ (f_X11_afternoon a0 μ) := by
  refine gm_start PN_11 (Nat.le_of_ble_eq_true rfl) (fun res μe => ?_)
  unfold f_X11_afternoon
  show gm_A "GumBubble" (gm_nm "afternoon") _ _ _ _ _ _ _ _ _ 0 [(0, .ref a0)] [] _ _
  refine gm_aload_n d_X11_afternoon_0 rfl 0 rfl ?_
  refine gm_getR F_11_now gw_262 d_X11_afternoon_1 (fun v1 _ => ?_)
  refine gm_getI F_8_afternoons gw_229 d_X11_afternoon_4 (fun v2 _ => ?_)
  refine gm_iconst (v := 5) d_X11_afternoon_7 (by decide) ?_
  refine gm_icmp_lt (tgt := 14) d_X11_afternoon_8 (by decide) (fun h8 => ?_) (fun h8 => ?_)
  ·
    refine gm_new (k0 := 0) (T := gm_T0) (N := 10) rfl gw_303 gw_120 gw_12 (Nat.le_of_ble_eq_true rfl) (Nat.le_of_ble_eq_true rfl) d_X11_afternoon_14 (fun q3 m4 _ _ => ?_)
    refine gm_dup d_X11_afternoon_17 rfl ?_
    refine gm_grd (fun g18 => ?_)
    refine gm_callIN [] (c_X0_init q3 m4) g18 rfl B_X0_init (by first | exact Or.inl rfl | exact Or.inr rfl) rfl rfl rfl d_X11_afternoon_18 (gm_kV (fun m5 => ?_))
    refine gm_astore_n (L' := [(1, .ref q3), (0, .ref a0)]) d_X11_afternoon_21 rfl (Nat.le_of_ble_eq_true rfl) rfl ?_
    refine gm_aload_n d_X11_afternoon_22 rfl 0 rfl ?_
    refine gm_aload_n d_X11_afternoon_23 rfl 1 rfl ?_
    refine gm_getR F_11_now gw_262 d_X11_afternoon_24 (fun v7 _ => ?_)
    refine gm_getR F_8_tape gw_225 d_X11_afternoon_27 (fun v8 _ => ?_)
    refine gm_aload_n d_X11_afternoon_30 rfl 1 rfl ?_
    refine gm_getR F_11_now gw_262 d_X11_afternoon_31 (fun v9 _ => ?_)
    refine gm_getI F_8_tapeSize gw_226 d_X11_afternoon_34 (fun v10 _ => ?_)
    refine gm_grd (fun g37 => ?_)
    refine gm_callV (k0 := 0) [.ref v8, .int v10] (c_X0_read q3 v8 v10 m5) g37 rfl B_X0_read gw_305 gw_307 rfl rfl rfl d_X11_afternoon_37 (gm_kI (fun x12 m11 => ?_))
    refine gm_istore_n (L' := [(2, .int x12), (1, .ref q3), (0, .ref a0)]) d_X11_afternoon_40 rfl (Nat.le_of_ble_eq_true rfl) rfl ?_
    refine gm_aload_n d_X11_afternoon_41 rfl 2 rfl ?_
    refine gm_getR F_11_now gw_262 d_X11_afternoon_42 (fun v13 _ => ?_)
    refine gm_iconst (v := 0) d_X11_afternoon_45 (by decide) ?_
    refine gm_putI F_8_tapeSize (Or.inl rfl) gw_226 d_X11_afternoon_46 (fun m14 _ => ?_)
    refine gm_iload_n d_X11_afternoon_49 rfl 0 rfl ?_
    refine gm_if_lt (tgt := 58) d_X11_afternoon_50 (by decide) (fun h50 => ?_) (fun h50 => ?_)
    ·
      refine gm_aload_n d_X11_afternoon_58 rfl 2 rfl ?_
      refine gm_getR F_11_now gw_262 d_X11_afternoon_59 (fun v15 _ => ?_)
      refine gm_aload_n d_X11_afternoon_62 rfl 1 rfl ?_
      refine gm_putR F_8_afternoon (Or.inl rfl) gw_231 d_X11_afternoon_63 (fun m16 _ => ?_)
      refine gm_aload_n d_X11_afternoon_66 rfl 2 rfl ?_
      refine gm_getR F_11_now gw_262 d_X11_afternoon_67 (fun v17 _ => ?_)
      refine gm_dup d_X11_afternoon_70 rfl ?_
      refine gm_getI F_8_afternoons gw_229 d_X11_afternoon_71 (fun v18 _ => ?_)
      refine gm_iconst (v := 1) d_X11_afternoon_74 (by decide) ?_
      refine gm_iadd d_X11_afternoon_75 ?_
      refine gm_putI F_8_afternoons (Or.inl rfl) gw_229 d_X11_afternoon_76 (fun m19 _ => ?_)
      refine gm_aload_n d_X11_afternoon_79 rfl 2 rfl ?_
      refine gm_getR F_11_now gw_262 d_X11_afternoon_80 (fun v20 _ => ?_)
      refine gm_getI F_8_afternoons gw_229 d_X11_afternoon_83 (fun v21 _ => ?_)
      refine gm_iconst (v := 1) d_X11_afternoon_86 (by decide) ?_
      refine gm_isub d_X11_afternoon_87 ?_
      exact gm_iret rfl d_X11_afternoon_88 (Nat.le_of_ble_eq_true rfl) (Nat.le_of_ble_eq_true rfl) (fun h => h)
    ·
      refine gm_bipush (v := -10) d_X11_afternoon_53 (by decide) ?_
      refine gm_iload_n d_X11_afternoon_55 rfl 0 rfl ?_
      refine gm_isub d_X11_afternoon_56 ?_
      exact gm_iret rfl d_X11_afternoon_57 (Nat.le_of_ble_eq_true rfl) (Nat.le_of_ble_eq_true rfl) (fun h => h)
  ·
    refine gm_bipush (v := -4) d_X11_afternoon_11 (by decide) ?_
    exact gm_iret rfl d_X11_afternoon_13 (Nat.le_of_ble_eq_true rfl) (Nat.le_of_ble_eq_true rfl) (fun h => h)
theorem d_X11_arrange_0 : decode prog_1_method_54_code 0 = .ok (.iload_n 1, 1) := ge_iload_n_1 (by decide +kernel)
theorem d_X11_arrange_1 : decode prog_1_method_54_code 1 = .ok (.aload_n 0, 1) := ge_aload_n_0 (by decide +kernel)
theorem d_X11_arrange_2 : decode prog_1_method_54_code 2 = .ok (.getfield 60, 3) := ge_getfield (by decide +kernel)
theorem d_X11_arrange_5 : decode prog_1_method_54_code 5 = .ok (.getfield 101, 3) := ge_getfield (by decide +kernel)
theorem d_X11_arrange_8 : decode prog_1_method_54_code 8 = .ok (.if_icmp .ge 8, 3) := ge_if_icmp_ge (by decide +kernel)
theorem d_X11_arrange_11 : decode prog_1_method_54_code 11 = .ok (.iload_n 1, 1) := ge_iload_n_1 (by decide +kernel)
theorem d_X11_arrange_12 : decode prog_1_method_54_code 12 = .ok (.iconst 5, 1) := ge_iconst_5 (by decide +kernel)
theorem d_X11_arrange_13 : decode prog_1_method_54_code 13 = .ok (.if_icmp .lt 31, 3) := ge_if_icmp_lt (by decide +kernel)
theorem d_X11_arrange_16 : decode prog_1_method_54_code 16 = .ok (.iload_n 3, 1) := ge_iload_n_3 (by decide +kernel)
theorem d_X11_arrange_17 : decode prog_1_method_54_code 17 = .ok (.aload_n 0, 1) := ge_aload_n_0 (by decide +kernel)
theorem d_X11_arrange_18 : decode prog_1_method_54_code 18 = .ok (.getfield 226, 3) := ge_getfield (by decide +kernel)
theorem d_X11_arrange_21 : decode prog_1_method_54_code 21 = .ok (.if_icmp .le 22, 3) := ge_if_icmp_le (by decide +kernel)
theorem d_X11_arrange_24 : decode prog_1_method_54_code 24 = .ok (.aload_n 0, 1) := ge_aload_n_0 (by decide +kernel)
theorem d_X11_arrange_25 : decode prog_1_method_54_code 25 = .ok (.iload_n 3, 1) := ge_iload_n_3 (by decide +kernel)
theorem d_X11_arrange_26 : decode prog_1_method_54_code 26 = .ok (.putfield 226, 3) := ge_putfield (by decide +kernel)
theorem d_X11_arrange_29 : decode prog_1_method_54_code 29 = .ok (.aload_n 0, 1) := ge_aload_n_0 (by decide +kernel)
theorem d_X11_arrange_30 : decode prog_1_method_54_code 30 = .ok (.getfield 30, 3) := ge_getfield (by decide +kernel)
theorem d_X11_arrange_33 : decode prog_1_method_54_code 33 = .ok (.iconst 0, 1) := ge_iconst_0 (by decide +kernel)
theorem d_X11_arrange_34 : decode prog_1_method_54_code 34 = .ok (.aload_n 0, 1) := ge_aload_n_0 (by decide +kernel)
theorem d_X11_arrange_35 : decode prog_1_method_54_code 35 = .ok (.getfield 33, 3) := ge_getfield (by decide +kernel)
theorem d_X11_arrange_38 : decode prog_1_method_54_code 38 = .ok (.iconst 0, 1) := ge_iconst_0 (by decide +kernel)
theorem d_X11_arrange_39 : decode prog_1_method_54_code 39 = .ok (.iconst 5, 1) := ge_iconst_5 (by decide +kernel)
theorem d_X11_arrange_40 : decode prog_1_method_54_code 40 = .ok (.invokestatic 295, 3) := ge_invokestatic (by decide +kernel)
theorem d_X11_arrange_43 : decode prog_1_method_54_code 43 = .ok (.return_, 1) := ge_return_ (by decide +kernel)
theorem d_X11_arrange_44 : decode prog_1_method_54_code 44 = .ok (.iconst 0, 1) := ge_iconst_0 (by decide +kernel)
theorem d_X11_arrange_45 : decode prog_1_method_54_code 45 = .ok (.istore 4, 2) := ge_istore (by decide +kernel)
theorem d_X11_arrange_47 : decode prog_1_method_54_code 47 = .ok (.iload 4, 2) := ge_iload (by decide +kernel)
theorem d_X11_arrange_49 : decode prog_1_method_54_code 49 = .ok (.aload_n 0, 1) := ge_aload_n_0 (by decide +kernel)
theorem d_X11_arrange_50 : decode prog_1_method_54_code 50 = .ok (.getfield 60, 3) := ge_getfield (by decide +kernel)
theorem d_X11_arrange_53 : decode prog_1_method_54_code 53 = .ok (.getfield 101, 3) := ge_getfield (by decide +kernel)
theorem d_X11_arrange_56 : decode prog_1_method_54_code 56 = .ok (.if_icmp .ge 55, 3) := ge_if_icmp_ge (by decide +kernel)
theorem d_X11_arrange_59 : decode prog_1_method_54_code 59 = .ok (.iload_n 2, 1) := ge_iload_n_2 (by decide +kernel)
theorem d_X11_arrange_60 : decode prog_1_method_54_code 60 = .ok (.iload 4, 2) := ge_iload (by decide +kernel)
theorem d_X11_arrange_62 : decode prog_1_method_54_code 62 = .ok (.ishr, 1) := ge_ishr (by decide +kernel)
theorem d_X11_arrange_63 : decode prog_1_method_54_code 63 = .ok (.iconst 1, 1) := ge_iconst_1 (by decide +kernel)
theorem d_X11_arrange_64 : decode prog_1_method_54_code 64 = .ok (.iand, 1) := ge_iand (by decide +kernel)
theorem d_X11_arrange_65 : decode prog_1_method_54_code 65 = .ok (.ifCond .eq 6, 3) := ge_ifCond_eq (by decide +kernel)
theorem d_X11_arrange_68 : decode prog_1_method_54_code 68 = .ok (.goto 37, 3) := ge_goto (by decide +kernel)
theorem d_X11_arrange_71 : decode prog_1_method_54_code 71 = .ok (.aload_n 0, 1) := ge_aload_n_0 (by decide +kernel)
theorem d_X11_arrange_72 : decode prog_1_method_54_code 72 = .ok (.getfield 30, 3) := ge_getfield (by decide +kernel)
theorem d_X11_arrange_75 : decode prog_1_method_54_code 75 = .ok (.iload_n 1, 1) := ge_iload_n_1 (by decide +kernel)
theorem d_X11_arrange_76 : decode prog_1_method_54_code 76 = .ok (.iload 4, 2) := ge_iload (by decide +kernel)
theorem d_X11_arrange_78 : decode prog_1_method_54_code 78 = .ok (.iastore, 1) := ge_iastore (by decide +kernel)
theorem d_X11_arrange_79 : decode prog_1_method_54_code 79 = .ok (.aload_n 0, 1) := ge_aload_n_0 (by decide +kernel)
theorem d_X11_arrange_80 : decode prog_1_method_54_code 80 = .ok (.iload_n 1, 1) := ge_iload_n_1 (by decide +kernel)
theorem d_X11_arrange_81 : decode prog_1_method_54_code 81 = .ok (.iconst 1, 1) := ge_iconst_1 (by decide +kernel)
theorem d_X11_arrange_82 : decode prog_1_method_54_code 82 = .ok (.iadd, 1) := ge_iadd (by decide +kernel)
theorem d_X11_arrange_83 : decode prog_1_method_54_code 83 = .ok (.iload_n 2, 1) := ge_iload_n_2 (by decide +kernel)
theorem d_X11_arrange_84 : decode prog_1_method_54_code 84 = .ok (.iconst 1, 1) := ge_iconst_1 (by decide +kernel)
theorem d_X11_arrange_85 : decode prog_1_method_54_code 85 = .ok (.iload 4, 2) := ge_iload (by decide +kernel)
theorem d_X11_arrange_87 : decode prog_1_method_54_code 87 = .ok (.ishl, 1) := ge_ishl (by decide +kernel)
theorem d_X11_arrange_88 : decode prog_1_method_54_code 88 = .ok (.ior, 1) := ge_ior (by decide +kernel)
theorem d_X11_arrange_89 : decode prog_1_method_54_code 89 = .ok (.iload_n 3, 1) := ge_iload_n_3 (by decide +kernel)
theorem d_X11_arrange_90 : decode prog_1_method_54_code 90 = .ok (.aload_n 0, 1) := ge_aload_n_0 (by decide +kernel)
theorem d_X11_arrange_91 : decode prog_1_method_54_code 91 = .ok (.getfield 26, 3) := ge_getfield (by decide +kernel)
theorem d_X11_arrange_94 : decode prog_1_method_54_code 94 = .ok (.iload 4, 2) := ge_iload (by decide +kernel)
theorem d_X11_arrange_96 : decode prog_1_method_54_code 96 = .ok (.iconst 5, 1) := ge_iconst_5 (by decide +kernel)
theorem d_X11_arrange_97 : decode prog_1_method_54_code 97 = .ok (.imul, 1) := ge_imul (by decide +kernel)
theorem d_X11_arrange_98 : decode prog_1_method_54_code 98 = .ok (.iload_n 1, 1) := ge_iload_n_1 (by decide +kernel)
theorem d_X11_arrange_99 : decode prog_1_method_54_code 99 = .ok (.iadd, 1) := ge_iadd (by decide +kernel)
theorem d_X11_arrange_100 : decode prog_1_method_54_code 100 = .ok (.iaload, 1) := ge_iaload (by decide +kernel)
theorem d_X11_arrange_101 : decode prog_1_method_54_code 101 = .ok (.iadd, 1) := ge_iadd (by decide +kernel)
theorem d_X11_arrange_102 : decode prog_1_method_54_code 102 = .ok (.invokevirtual 229, 3) := ge_invokevirtual (by decide +kernel)
theorem d_X11_arrange_105 : decode prog_1_method_54_code 105 = .ok (.iinc 4 1, 3) := ge_iinc (by decide +kernel)
theorem d_X11_arrange_108 : decode prog_1_method_54_code 108 = .ok (.goto (-61), 3) := ge_goto (by decide +kernel)
theorem d_X11_arrange_111 : decode prog_1_method_54_code 111 = .ok (.return_, 1) := ge_return_ (by decide +kernel)
def b_X11_arrange (R0 : Nat → Int32 → Int32 → Int32 → gm_M → Option (Option Value × gm_M)) (a0 : Nat) (a1 : Int32) (a2 : Int32) (a3 : Int32) (μ : gm_M) : Option (Option Value × gm_M) := gm_gR μ [16] a0 1 (fun v1 => gm_gI μ [13] v1 1 (fun v2 => gm_j (fun (s3 : Unit) => gm_gI μ [16] a0 9 (fun v5 => if a3 ≤ v5 then some (none, μ) else gm_pI μ [16] a0 9 a3 (fun m6 => gm_gR m6 [16] a0 7 (fun v7 => gm_gR m6 [16] a0 8 (fun v8 => gm_cp m6 v7 (0 : Int32) v8 (0 : Int32) (5 : Int32) (fun m9 => some (none, m9))))))) (fun j4 => if v2 ≤ a1 then j4 () else if a1 < (5 : Int32) then gm_loop (fun (s10 : Int32 × gm_M) => gm_gR s10.2 [16] a0 1 (fun v11 => gm_gI s10.2 [13] v11 1 (fun v12 => if v12 ≤ s10.1 then some (Sum.inr (none, s10.2)) else gm_j (fun (s13 : gm_M) => some (Sum.inl ((s10.1 + (1 : Int32)), s13))) (fun j14 => if ((a2 >>> (s10.1 &&& 31)) &&& (1 : Int32)) = 0 then gm_gR s10.2 [16] a0 7 (fun v15 => gm_sI s10.2 v15 a1 s10.1 (fun m16 => gm_gR m16 [16] a0 6 (fun v17 => gm_aI m16 v17 ((s10.1 * (5 : Int32)) + a1) (fun v18 => if gm_tag m16 a0 = 16 then gm_bV (R0 a0 (a1 + (1 : Int32)) (a2 ||| ((1 : Int32) <<< (s10.1 &&& 31))) (a3 + v18) m16) (fun m19 => j14 m19) else none)))) else j14 s10.2)))) 5000 ((0 : Int32), μ) else j4 ())))
set_option maxHeartbeats 4000000 in
theorem bc_X11_arrange (d : Nat) (R0 : Nat → Int32 → Int32 → Int32 → gm_M → Option (Option Value × gm_M)) (hR0 : ∀ (a0 : Nat) (a1 : Int32) (a2 : Int32) (a3 : Int32) (μ : gm_M), gm_Call ({ cls := "GumBubble", name := "arrange", desc := "(III)V" } : Jvm.MethodName) prog_1_method_54_code 5 none (d + 1) 0 0 [.ref a0, .int a1, .int a2, .int a3] μ (R0 a0 a1 a2 a3 μ)) (a0 : Nat) (a1 : Int32) (a2 : Int32) (a3 : Int32) (μ : gm_M) : gm_Call ({ cls := "GumBubble", name := "arrange", desc := "(III)V" } : Jvm.MethodName) prog_1_method_54_code 5 none (d + 1 + 1) 0 0 [.ref a0, .int a1, .int a2, .int a3] μ (b_X11_arrange R0 a0 a1 a2 a3 μ) := by
  refine gm_start PN_11 (Nat.le_of_ble_eq_true rfl) (fun res μe => ?_)
  unfold b_X11_arrange
  show gm_A "GumBubble" (gm_nm "arrange") _ _ _ _ _ _ _ _ _ 0 [(0, .ref a0), (1, .int a1), (2, .int a2), (3, .int a3)] [] _ _
  refine gm_iload_n d_X11_arrange_0 rfl 1 rfl ?_
  refine gm_aload_n d_X11_arrange_1 rfl 0 rfl ?_
  refine gm_getR F_11_now gw_262 d_X11_arrange_2 (fun v1 _ => ?_)
  refine gm_getI F_8_size gw_221 d_X11_arrange_5 (fun v2 _ => ?_)
  refine gm_join (S := Unit) (pj := 16) (kj := 0) (nj := 0) (fun s3 => μ) (fun s3 => [(0, .ref a0), (1, .int a1), (2, .int a2), (3, .int a3)]) (fun s3 => []) (fun s3 => ?_) (fun j4 hj4 => ?_)
  ·
    refine gm_iload_n d_X11_arrange_16 rfl 3 rfl ?_
    refine gm_aload_n d_X11_arrange_17 rfl 0 rfl ?_
    refine gm_getI F_11_bestSum gw_270 d_X11_arrange_18 (fun v5 _ => ?_)
    refine gm_icmp_le (tgt := 43) d_X11_arrange_21 (by decide) (fun h21 => ?_) (fun h21 => ?_)
    ·
      exact gm_vret rfl d_X11_arrange_43 (Nat.le_of_ble_eq_true rfl) (Nat.le_of_ble_eq_true rfl) (fun h => h)
    ·
      refine gm_aload_n d_X11_arrange_24 rfl 0 rfl ?_
      refine gm_iload_n d_X11_arrange_25 rfl 3 rfl ?_
      refine gm_putI F_11_bestSum (Or.inl rfl) gw_270 d_X11_arrange_26 (fun m6 _ => ?_)
      refine gm_aload_n d_X11_arrange_29 rfl 0 rfl ?_
      refine gm_getR F_11_tried gw_268 d_X11_arrange_30 (fun v7 _ => ?_)
      refine gm_iconst (v := 0) d_X11_arrange_33 (by decide) ?_
      refine gm_aload_n d_X11_arrange_34 rfl 0 rfl ?_
      refine gm_getR F_11_best gw_269 d_X11_arrange_35 (fun v8 _ => ?_)
      refine gm_iconst (v := 0) d_X11_arrange_38 (by decide) ?_
      refine gm_iconst (v := 5) d_X11_arrange_39 (by decide) ?_
      refine gm_copy gw_701 gw_591 gw_590 gw_20 (by simp only [gm_rm]; omega) (by simp only [gm_rm]; omega) rfl d_X11_arrange_40 (fun m9 _ => ?_)
      exact gm_vret rfl d_X11_arrange_43 (Nat.le_of_ble_eq_true rfl) (Nat.le_of_ble_eq_true rfl) (fun h => h)
  ·
    refine gm_icmp_ge (tgt := 16) d_X11_arrange_8 (by decide) (fun h8 => ?_) (fun h8 => ?_)
    ·
      exact hj4 ()
    ·
      refine gm_iload_n d_X11_arrange_11 rfl 1 rfl ?_
      refine gm_iconst (v := 5) d_X11_arrange_12 (by decide) ?_
      refine gm_icmp_lt (tgt := 44) d_X11_arrange_13 (by decide) (fun h13 => ?_) (fun h13 => ?_)
      ·
        refine gm_iconst (v := 0) d_X11_arrange_44 (by decide) ?_
        refine gm_istore (L' := [(4, .int (0 : Int32)), (0, .ref a0), (1, .int a1), (2, .int a2), (3, .int a3)]) d_X11_arrange_45 (Nat.le_of_ble_eq_true rfl) rfl ?_
        refine gm_sub (L' := [(0, .ref a0), (1, .int a1), (2, .int a2), (3, .int a3), (4, .int (0 : Int32))]) [1, 2, 3, 4, 0] rfl ?_
        refine gm_lp (S := Int32 × gm_M) (fun _ => 0) (fun _ => 0) (fun s10 => s10.2) (fun s10 => [(0, .ref a0), (1, .int a1), (2, .int a2), (3, .int a3), (4, .int s10.1)]) (fun _ => []) (fun s10 => ?_) 5000 ((0 : Int32), μ)
        refine gm_iload d_X11_arrange_47 4 rfl ?_
        refine gm_aload_n d_X11_arrange_49 rfl 0 rfl ?_
        refine gm_getR F_11_now gw_262 d_X11_arrange_50 (fun v11 _ => ?_)
        refine gm_getI F_8_size gw_221 d_X11_arrange_53 (fun v12 _ => ?_)
        refine gm_icmp_ge (tgt := 111) d_X11_arrange_56 (by decide) (fun h56 => ?_) (fun h56 => ?_)
        ·
          exact gm_vret rfl d_X11_arrange_111 (Nat.le_of_ble_eq_true rfl) (Nat.le_of_ble_eq_true rfl) (fun h => h)
        ·
          refine gm_iload_n d_X11_arrange_59 rfl 2 rfl ?_
          refine gm_iload d_X11_arrange_60 4 rfl ?_
          refine gm_ishr d_X11_arrange_62 ?_
          refine gm_iconst (v := 1) d_X11_arrange_63 (by decide) ?_
          refine gm_iand d_X11_arrange_64 ?_
          refine gm_join (S := gm_M) (pj := 105) (kj := 0) (nj := 0) (fun s13 => s13) (fun s13 => [(0, .ref a0), (1, .int a1), (2, .int a2), (3, .int a3), (4, .int s10.1)]) (fun s13 => []) (fun s13 => ?_) (fun j14 hj14 => ?_)
          ·
            refine gm_iinc (v := s10.1 + (1 : Int32)) (L' := [(4, .int (s10.1 + (1 : Int32))), (0, .ref a0), (1, .int a1), (2, .int a2), (3, .int a3)]) d_X11_arrange_105 4 rfl rfl (Nat.le_of_ble_eq_true rfl) rfl ?_
            refine gm_goto (tgt := 47) d_X11_arrange_108 (by decide) ?_
            refine gm_sub (L' := [(0, .ref a0), (1, .int a1), (2, .int a2), (3, .int a3), (4, .int (s10.1 + (1 : Int32)))]) [1, 2, 3, 4, 0] rfl ?_
            exact gm_back (fun h => h)
          ·
            refine gm_if_eq (tgt := 71) d_X11_arrange_65 (by decide) (fun h65 => ?_) (fun h65 => ?_)
            ·
              refine gm_aload_n d_X11_arrange_71 rfl 0 rfl ?_
              refine gm_getR F_11_tried gw_268 d_X11_arrange_72 (fun v15 _ => ?_)
              refine gm_iload_n d_X11_arrange_75 rfl 1 rfl ?_
              refine gm_iload d_X11_arrange_76 4 rfl ?_
              refine gm_iast d_X11_arrange_78 (fun m16 _ => ?_)
              refine gm_aload_n d_X11_arrange_79 rfl 0 rfl ?_
              refine gm_iload_n d_X11_arrange_80 rfl 1 rfl ?_
              refine gm_iconst (v := 1) d_X11_arrange_81 (by decide) ?_
              refine gm_iadd d_X11_arrange_82 ?_
              refine gm_iload_n d_X11_arrange_83 rfl 2 rfl ?_
              refine gm_iconst (v := 1) d_X11_arrange_84 (by decide) ?_
              refine gm_iload d_X11_arrange_85 4 rfl ?_
              refine gm_ishl d_X11_arrange_87 ?_
              refine gm_ior d_X11_arrange_88 ?_
              refine gm_iload_n d_X11_arrange_89 rfl 3 rfl ?_
              refine gm_aload_n d_X11_arrange_90 rfl 0 rfl ?_
              refine gm_getR F_11_behind gw_267 d_X11_arrange_91 (fun v17 _ => ?_)
              refine gm_iload d_X11_arrange_94 4 rfl ?_
              refine gm_iconst (v := 5) d_X11_arrange_96 (by decide) ?_
              refine gm_imul d_X11_arrange_97 ?_
              refine gm_iload_n d_X11_arrange_98 rfl 1 rfl ?_
              refine gm_iadd d_X11_arrange_99 ?_
              refine gm_iald d_X11_arrange_100 (fun v18 _ => ?_)
              refine gm_iadd d_X11_arrange_101 ?_
              refine gm_grd (fun g102 => ?_)
              refine gm_callV (k0 := 11) [.int (a1 + (1 : Int32)), .int (a2 ||| ((1 : Int32) <<< (s10.1 &&& 31))), .int (a3 + v18)] (hR0 a0 (a1 + (1 : Int32)) (a2 ||| ((1 : Int32) <<< (s10.1 &&& 31))) (a3 + v18) m16) g102 rfl B_X11_arrange gw_697 gs_21 (gm_hit2 (by simp only [gm_rm]; omega) (by simp only [gm_rm]; omega) (Nat.le_refl 0) (Nat.le_refl 0)) rfl rfl d_X11_arrange_102 (gm_kV (fun m19 => ?_))
              exact hj14 m19
            ·
              refine gm_goto (tgt := 105) d_X11_arrange_68 (by decide) ?_
              exact hj14 s10.2
      ·
        exact hj4 ()
def r_X11_arrange : Nat → Nat → Int32 → Int32 → Int32 → gm_M → Option (Option Value × gm_M)
  | 0 => fun _ _ _ _ _ => none
  | d + 1 => b_X11_arrange (r_X11_arrange d)
theorem rc_X11_arrange : ∀ d : Nat, (∀ (a0 : Nat) (a1 : Int32) (a2 : Int32) (a3 : Int32) (μ : gm_M), gm_Call ({ cls := "GumBubble", name := "arrange", desc := "(III)V" } : Jvm.MethodName) prog_1_method_54_code 5 none (d + 1) 0 0 [.ref a0, .int a1, .int a2, .int a3] μ ((r_X11_arrange d) a0 a1 a2 a3 μ)) := by
  intro d
  induction d with
  | zero =>
    exact fun _ _ _ _ _ _ _ h => (by cases h)
  | succ d ih =>
    exact bc_X11_arrange d _ ih
def f_X11_arrange (a0 : Nat) (a1 : Int32) (a2 : Int32) (a3 : Int32) (μ : gm_M) : Option (Option Value × gm_M) := (r_X11_arrange 64) a0 a1 a2 a3 μ
theorem c_X11_arrange (a0 : Nat) (a1 : Int32) (a2 : Int32) (a3 : Int32) (μ : gm_M) : gm_Call ({ cls := "GumBubble", name := "arrange", desc := "(III)V" } : Jvm.MethodName) prog_1_method_54_code 5 none 65 0 0 [.ref a0, .int a1, .int a2, .int a3] μ (f_X11_arrange a0 a1 a2 a3 μ) := (rc_X11_arrange 64) a0 a1 a2 a3 μ
theorem d_X11_isUnder_0 : decode prog_1_method_58_code 0 = .ok (.iload_n 1, 1) := ge_iload_n_1 (by decide +kernel)
theorem d_X11_isUnder_1 : decode prog_1_method_58_code 1 = .ok (.tableswitch 75 0 6 #[43, 45, 50, 55, 60, 65, 70], 43) := by decide +kernel
theorem d_X11_isUnder_44 : decode prog_1_method_58_code 44 = .ok (.iconst 1, 1) := ge_iconst_1 (by decide +kernel)
theorem d_X11_isUnder_45 : decode prog_1_method_58_code 45 = .ok (.ireturn, 1) := ge_ireturn (by decide +kernel)
theorem d_X11_isUnder_46 : decode prog_1_method_58_code 46 = .ok (.aload_n 0, 1) := ge_aload_n_0 (by decide +kernel)
theorem d_X11_isUnder_47 : decode prog_1_method_58_code 47 = .ok (.instanceof 37, 3) := ge_instanceof (by decide +kernel)
theorem d_X11_isUnder_50 : decode prog_1_method_58_code 50 = .ok (.ireturn, 1) := ge_ireturn (by decide +kernel)
theorem d_X11_isUnder_51 : decode prog_1_method_58_code 51 = .ok (.aload_n 0, 1) := ge_aload_n_0 (by decide +kernel)
theorem d_X11_isUnder_52 : decode prog_1_method_58_code 52 = .ok (.instanceof 40, 3) := ge_instanceof (by decide +kernel)
theorem d_X11_isUnder_55 : decode prog_1_method_58_code 55 = .ok (.ireturn, 1) := ge_ireturn (by decide +kernel)
theorem d_X11_isUnder_56 : decode prog_1_method_58_code 56 = .ok (.aload_n 0, 1) := ge_aload_n_0 (by decide +kernel)
theorem d_X11_isUnder_57 : decode prog_1_method_58_code 57 = .ok (.instanceof 43, 3) := ge_instanceof (by decide +kernel)
theorem d_X11_isUnder_60 : decode prog_1_method_58_code 60 = .ok (.ireturn, 1) := ge_ireturn (by decide +kernel)
theorem d_X11_isUnder_61 : decode prog_1_method_58_code 61 = .ok (.aload_n 0, 1) := ge_aload_n_0 (by decide +kernel)
theorem d_X11_isUnder_62 : decode prog_1_method_58_code 62 = .ok (.instanceof 46, 3) := ge_instanceof (by decide +kernel)
theorem d_X11_isUnder_65 : decode prog_1_method_58_code 65 = .ok (.ireturn, 1) := ge_ireturn (by decide +kernel)
theorem d_X11_isUnder_66 : decode prog_1_method_58_code 66 = .ok (.aload_n 0, 1) := ge_aload_n_0 (by decide +kernel)
theorem d_X11_isUnder_67 : decode prog_1_method_58_code 67 = .ok (.instanceof 49, 3) := ge_instanceof (by decide +kernel)
theorem d_X11_isUnder_70 : decode prog_1_method_58_code 70 = .ok (.ireturn, 1) := ge_ireturn (by decide +kernel)
theorem d_X11_isUnder_71 : decode prog_1_method_58_code 71 = .ok (.aload_n 0, 1) := ge_aload_n_0 (by decide +kernel)
theorem d_X11_isUnder_72 : decode prog_1_method_58_code 72 = .ok (.instanceof 52, 3) := ge_instanceof (by decide +kernel)
theorem d_X11_isUnder_75 : decode prog_1_method_58_code 75 = .ok (.ireturn, 1) := ge_ireturn (by decide +kernel)
theorem d_X11_isUnder_76 : decode prog_1_method_58_code 76 = .ok (.iconst 0, 1) := ge_iconst_0 (by decide +kernel)
theorem d_X11_isUnder_77 : decode prog_1_method_58_code 77 = .ok (.ireturn, 1) := ge_ireturn (by decide +kernel)
def f_X11_isUnder (a0 : Nat) (a1 : Int32) (μ : gm_M) : Option (Option Value × gm_M) := if a1 = 0 then if (1 : Int32) = 0 ∨ (1 : Int32) = 1 then some (some (.int (1 : Int32)), μ) else none else if a1 = 1 then gm_io μ [9, 11] [10, 6, 8, 14, 15] a0 (fun v1 => if v1 = 0 ∨ v1 = 1 then some (some (.int v1), μ) else none) else if a1 = 2 then gm_io μ [6, 14] [10, 8, 9, 11, 15] a0 (fun v2 => if v2 = 0 ∨ v2 = 1 then some (some (.int v2), μ) else none) else if a1 = 3 then gm_io μ [8, 15] [10, 6, 9, 11, 14] a0 (fun v3 => if v3 = 0 ∨ v3 = 1 then some (some (.int v3), μ) else none) else if a1 = 4 then gm_io μ [9] [10, 6, 8, 11, 14, 15] a0 (fun v4 => if v4 = 0 ∨ v4 = 1 then some (some (.int v4), μ) else none) else if a1 = 5 then gm_io μ [6] [10, 8, 9, 11, 14, 15] a0 (fun v5 => if v5 = 0 ∨ v5 = 1 then some (some (.int v5), μ) else none) else if a1 = 6 then gm_io μ [15] [10, 6, 8, 9, 11, 14] a0 (fun v6 => if v6 = 0 ∨ v6 = 1 then some (some (.int v6), μ) else none) else if (0 : Int32) = 0 ∨ (0 : Int32) = 1 then some (some (.int (0 : Int32)), μ) else none
set_option maxHeartbeats 4000000 in
theorem c_X11_isUnder (a0 : Nat) (a1 : Int32) (μ : gm_M) : gm_Call ({ cls := "GumBubble", name := "isUnder", desc := "(LGumBubble$Plain;I)Z" } : Jvm.MethodName) prog_1_method_58_code 2 (some .boolean) 0 0 0 [.ref a0, .int a1] μ (f_X11_isUnder a0 a1 μ) := by
  refine gm_start PN_11 (Nat.le_of_ble_eq_true rfl) (fun res μe => ?_)
  unfold f_X11_isUnder
  show gm_A "GumBubble" (gm_nm "isUnder") _ _ _ _ _ _ _ _ _ 0 [(0, .ref a0), (1, .int a1)] [] _ _
  refine gm_iload_n d_X11_isUnder_0 rfl 1 rfl ?_
  refine gm_ite (P := a1 = 0) (fun h1_0 => ?_) (fun h1_0 => ?_)
  ·
    refine gm_swIn (v := 0) (off := 43) (tgt := 44) d_X11_isUnder_1 (by rw [h1_0] <;> rfl) (by decide) (by decide) (by decide) (by decide) ?_
    refine gm_iconst (v := 1) d_X11_isUnder_44 (by decide) ?_
    exact gm_zret rfl d_X11_isUnder_45 (Nat.le_of_ble_eq_true rfl) (Nat.le_of_ble_eq_true rfl) (fun h => h)
  ·
    refine gm_ite (P := a1 = 1) (fun h1_1 => ?_) (fun h1_1 => ?_)
    ·
      refine gm_swIn (v := 1) (off := 45) (tgt := 46) d_X11_isUnder_1 (by rw [h1_1] <;> rfl) (by decide) (by decide) (by decide) (by decide) ?_
      refine gm_aload_n d_X11_isUnder_46 rfl 0 rfl ?_
      refine gm_inst IY_6 IN_6 gw_63 d_X11_isUnder_47 (fun v1 => ?_)
      exact gm_zret rfl d_X11_isUnder_50 (Nat.le_of_ble_eq_true rfl) (Nat.le_of_ble_eq_true rfl) (fun h => h)
    ·
      refine gm_ite (P := a1 = 2) (fun h1_2 => ?_) (fun h1_2 => ?_)
      ·
        refine gm_swIn (v := 2) (off := 50) (tgt := 51) d_X11_isUnder_1 (by rw [h1_2] <;> rfl) (by decide) (by decide) (by decide) (by decide) ?_
        refine gm_aload_n d_X11_isUnder_51 rfl 0 rfl ?_
        refine gm_inst IY_9 IN_9 gw_71 d_X11_isUnder_52 (fun v2 => ?_)
        exact gm_zret rfl d_X11_isUnder_55 (Nat.le_of_ble_eq_true rfl) (Nat.le_of_ble_eq_true rfl) (fun h => h)
      ·
        refine gm_ite (P := a1 = 3) (fun h1_3 => ?_) (fun h1_3 => ?_)
        ·
          refine gm_swIn (v := 3) (off := 55) (tgt := 56) d_X11_isUnder_1 (by rw [h1_3] <;> rfl) (by decide) (by decide) (by decide) (by decide) ?_
          refine gm_aload_n d_X11_isUnder_56 rfl 0 rfl ?_
          refine gm_inst IY_3 IN_3 gw_79 d_X11_isUnder_57 (fun v3 => ?_)
          exact gm_zret rfl d_X11_isUnder_60 (Nat.le_of_ble_eq_true rfl) (Nat.le_of_ble_eq_true rfl) (fun h => h)
        ·
          refine gm_ite (P := a1 = 4) (fun h1_4 => ?_) (fun h1_4 => ?_)
          ·
            refine gm_swIn (v := 4) (off := 60) (tgt := 61) d_X11_isUnder_1 (by rw [h1_4] <;> rfl) (by decide) (by decide) (by decide) (by decide) ?_
            refine gm_aload_n d_X11_isUnder_61 rfl 0 rfl ?_
            refine gm_inst IY_4 IN_4 gw_87 d_X11_isUnder_62 (fun v4 => ?_)
            exact gm_zret rfl d_X11_isUnder_65 (Nat.le_of_ble_eq_true rfl) (Nat.le_of_ble_eq_true rfl) (fun h => h)
          ·
            refine gm_ite (P := a1 = 5) (fun h1_5 => ?_) (fun h1_5 => ?_)
            ·
              refine gm_swIn (v := 5) (off := 65) (tgt := 66) d_X11_isUnder_1 (by rw [h1_5] <;> rfl) (by decide) (by decide) (by decide) (by decide) ?_
              refine gm_aload_n d_X11_isUnder_66 rfl 0 rfl ?_
              refine gm_inst IY_1 IN_1 gw_95 d_X11_isUnder_67 (fun v5 => ?_)
              exact gm_zret rfl d_X11_isUnder_70 (Nat.le_of_ble_eq_true rfl) (Nat.le_of_ble_eq_true rfl) (fun h => h)
            ·
              refine gm_ite (P := a1 = 6) (fun h1_6 => ?_) (fun h1_6 => ?_)
              ·
                refine gm_swIn (v := 6) (off := 70) (tgt := 71) d_X11_isUnder_1 (by rw [h1_6] <;> rfl) (by decide) (by decide) (by decide) (by decide) ?_
                refine gm_aload_n d_X11_isUnder_71 rfl 0 rfl ?_
                refine gm_inst IY_10 IN_10 gw_103 d_X11_isUnder_72 (fun v6 => ?_)
                exact gm_zret rfl d_X11_isUnder_75 (Nat.le_of_ble_eq_true rfl) (Nat.le_of_ble_eq_true rfl) (fun h => h)
              ·
                refine gm_swOut (tgt := 76) d_X11_isUnder_1 (by have g0 := lv_neT h1_0 (show (0 : Int32).toInt = 0 from rfl); have g1 := lv_neT h1_1 (show (1 : Int32).toInt = 1 from rfl); have g2 := lv_neT h1_2 (show (2 : Int32).toInt = 2 from rfl); have g3 := lv_neT h1_3 (show (3 : Int32).toInt = 3 from rfl); have g4 := lv_neT h1_4 (show (4 : Int32).toInt = 4 from rfl); have g5 := lv_neT h1_5 (show (5 : Int32).toInt = 5 from rfl); have g6 := lv_neT h1_6 (show (6 : Int32).toInt = 6 from rfl); omega) (by decide) ?_
                refine gm_iconst (v := 0) d_X11_isUnder_76 (by decide) ?_
                exact gm_zret rfl d_X11_isUnder_77 (Nat.le_of_ble_eq_true rfl) (Nat.le_of_ble_eq_true rfl) (fun h => h)
theorem d_X11_as_0 : decode prog_1_method_35_code 0 = .ok (.aload_n 0, 1) := ge_aload_n_0 (by decide +kernel)
theorem d_X11_as_1 : decode prog_1_method_35_code 1 = .ok (.iload_n 1, 1) := ge_iload_n_1 (by decide +kernel)
theorem d_X11_as_2 : decode prog_1_method_35_code 2 = .ok (.invokevirtual 115, 3) := ge_invokevirtual (by decide +kernel)
theorem d_X11_as_5 : decode prog_1_method_35_code 5 = .ok (.ifCond .ne 13, 3) := ge_ifCond_ne (by decide +kernel)
theorem d_X11_as_8 : decode prog_1_method_35_code 8 = .ok (.iload_n 2, 1) := ge_iload_n_2 (by decide +kernel)
theorem d_X11_as_9 : decode prog_1_method_35_code 9 = .ok (.iconst 0, 1) := ge_iconst_0 (by decide +kernel)
theorem d_X11_as_10 : decode prog_1_method_35_code 10 = .ok (.bipush 6, 2) := ge_bipush (by decide +kernel)
theorem d_X11_as_12 : decode prog_1_method_35_code 12 = .ok (.invokestatic 76, 3) := ge_invokestatic (by decide +kernel)
theorem d_X11_as_15 : decode prog_1_method_35_code 15 = .ok (.ifCond .eq 5, 3) := ge_ifCond_eq (by decide +kernel)
theorem d_X11_as_18 : decode prog_1_method_35_code 18 = .ok (.iconst (-1), 1) := ge_iconst_m1_ (by decide +kernel)
theorem d_X11_as_19 : decode prog_1_method_35_code 19 = .ok (.ireturn, 1) := ge_ireturn (by decide +kernel)
theorem d_X11_as_20 : decode prog_1_method_35_code 20 = .ok (.aload_n 0, 1) := ge_aload_n_0 (by decide +kernel)
theorem d_X11_as_21 : decode prog_1_method_35_code 21 = .ok (.getfield 60, 3) := ge_getfield (by decide +kernel)
theorem d_X11_as_24 : decode prog_1_method_35_code 24 = .ok (.getfield 104, 3) := ge_getfield (by decide +kernel)
theorem d_X11_as_27 : decode prog_1_method_35_code 27 = .ok (.iload_n 1, 1) := ge_iload_n_1 (by decide +kernel)
theorem d_X11_as_28 : decode prog_1_method_35_code 28 = .ok (.aaload, 1) := ge_aaload (by decide +kernel)
theorem d_X11_as_29 : decode prog_1_method_35_code 29 = .ok (.astore_n 3, 1) := ge_astore_n_3 (by decide +kernel)
theorem d_X11_as_30 : decode prog_1_method_35_code 30 = .ok (.aload_n 3, 1) := ge_aload_n_3 (by decide +kernel)
theorem d_X11_as_31 : decode prog_1_method_35_code 31 = .ok (.getfield 119, 3) := ge_getfield (by decide +kernel)
theorem d_X11_as_34 : decode prog_1_method_35_code 34 = .ok (.iload_n 2, 1) := ge_iload_n_2 (by decide +kernel)
theorem d_X11_as_35 : decode prog_1_method_35_code 35 = .ok (.invokestatic 278, 3) := ge_invokestatic (by decide +kernel)
theorem d_X11_as_38 : decode prog_1_method_35_code 38 = .ok (.ifCond .eq 10, 3) := ge_ifCond_eq (by decide +kernel)
theorem d_X11_as_41 : decode prog_1_method_35_code 41 = .ok (.aload_n 3, 1) := ge_aload_n_3 (by decide +kernel)
theorem d_X11_as_42 : decode prog_1_method_35_code 42 = .ok (.getfield 126, 3) := ge_getfield (by decide +kernel)
theorem d_X11_as_45 : decode prog_1_method_35_code 45 = .ok (.goto 5, 3) := ge_goto (by decide +kernel)
theorem d_X11_as_48 : decode prog_1_method_35_code 48 = .ok (.bipush (-6), 2) := ge_bipush (by decide +kernel)
theorem d_X11_as_50 : decode prog_1_method_35_code 50 = .ok (.ireturn, 1) := ge_ireturn (by decide +kernel)
def f_X11_as (a0 : Nat) (a1 : Int32) (a2 : Int32) (μ : gm_M) : Option (Option Value × gm_M) := if gm_tag μ a0 = 16 then gm_bI (f_X11_isNobody a0 a1 μ) (fun x2 m1 => if x2 ≠ 0 then some (some (.int (-1 : Int32)), m1) else gm_bI (f_X11_isOutside a2 (0 : Int32) (6 : Int32) m1) (fun x4 m3 => if x4 = 0 then gm_gR m3 [16] a0 1 (fun v5 => gm_gR m3 [13] v5 2 (fun v6 => gm_aR m3 4 v6 a1 (fun v7 => gm_gR m3 [7] v7 1 (fun v8 => gm_bI (f_X11_isUnder v8 a2 m3) (fun x10 m9 => if x10 = 0 then some (some (.int (-6 : Int32)), m9) else gm_gI m9 [7] v7 2 (fun v11 => some (some (.int v11), m9))))))) else some (some (.int (-1 : Int32)), m3))) else none
set_option maxHeartbeats 4000000 in
theorem c_X11_as (a0 : Nat) (a1 : Int32) (a2 : Int32) (μ : gm_M) : gm_Call ({ cls := "GumBubble", name := "as", desc := "(II)I" } : Jvm.MethodName) prog_1_method_35_code 4 (some .int) 2 0 0 [.ref a0, .int a1, .int a2] μ (f_X11_as a0 a1 a2 μ) := by
  refine gm_start PN_11 (Nat.le_of_ble_eq_true rfl) (fun res μe => ?_)
  unfold f_X11_as
  show gm_A "GumBubble" (gm_nm "as") _ _ _ _ _ _ _ _ _ 0 [(0, .ref a0), (1, .int a1), (2, .int a2)] [] _ _
  refine gm_aload_n d_X11_as_0 rfl 0 rfl ?_
  refine gm_iload_n d_X11_as_1 rfl 1 rfl ?_
  refine gm_grd (fun g2 => ?_)
  refine gm_callV (k0 := 11) [.int a1] (c_X11_isNobody a0 a1 μ) g2 rfl B_X11_isNobody gw_478 gs_11 rfl rfl rfl d_X11_as_2 (gm_kI (fun x2 m1 => ?_))
  refine gm_if_ne (tgt := 18) d_X11_as_5 (by decide) (fun h5 => ?_) (fun h5 => ?_)
  ·
    refine gm_iconst (v := -1) d_X11_as_18 (by decide) ?_
    exact gm_iret rfl d_X11_as_19 (Nat.le_of_ble_eq_true rfl) (Nat.le_of_ble_eq_true rfl) (fun h => h)
  ·
    refine gm_iload_n d_X11_as_8 rfl 2 rfl ?_
    refine gm_iconst (v := 0) d_X11_as_9 (by decide) ?_
    refine gm_bipush (v := 6) d_X11_as_10 (by decide) ?_
    refine gm_callS [.int a2, .int (0 : Int32), .int (6 : Int32)] (c_X11_isOutside a2 (0 : Int32) (6 : Int32) m1) B_X11_isOutside gw_296 rfl rfl rfl d_X11_as_12 (gm_kI (fun x4 m3 => ?_))
    refine gm_if_eq (tgt := 20) d_X11_as_15 (by decide) (fun h15 => ?_) (fun h15 => ?_)
    ·
      refine gm_aload_n d_X11_as_20 rfl 0 rfl ?_
      refine gm_getR F_11_now gw_262 d_X11_as_21 (fun v5 _ => ?_)
      refine gm_getR F_8_children gw_223 d_X11_as_24 (fun v6 _ => ?_)
      refine gm_iload_n d_X11_as_27 rfl 1 rfl ?_
      refine gm_aald (Or.inr rfl) d_X11_as_28 (fun v7 _ => ?_)
      refine gm_astore_n (L' := [(3, .ref v7), (0, .ref a0), (1, .int a1), (2, .int a2)]) d_X11_as_29 rfl (Nat.le_of_ble_eq_true rfl) rfl ?_
      refine gm_aload_n d_X11_as_30 rfl 0 rfl ?_
      refine gm_getR F_2_kind gw_172 d_X11_as_31 (fun v8 _ => ?_)
      refine gm_iload_n d_X11_as_34 rfl 3 rfl ?_
      refine gm_callS [.ref v8, .int a2] (c_X11_isUnder v8 a2 m3) B_X11_isUnder gw_857 rfl rfl rfl d_X11_as_35 (gm_kI (fun x10 m9 => ?_))
      refine gm_if_eq (tgt := 48) d_X11_as_38 (by decide) (fun h38 => ?_) (fun h38 => ?_)
      ·
        refine gm_bipush (v := -6) d_X11_as_48 (by decide) ?_
        exact gm_iret rfl d_X11_as_50 (Nat.le_of_ble_eq_true rfl) (Nat.le_of_ble_eq_true rfl) (fun h => h)
      ·
        refine gm_aload_n d_X11_as_41 rfl 0 rfl ?_
        refine gm_getI F_2_v gw_177 d_X11_as_42 (fun v11 _ => ?_)
        refine gm_goto (tgt := 50) d_X11_as_45 (by decide) ?_
        exact gm_iret rfl d_X11_as_50 (Nat.le_of_ble_eq_true rfl) (Nat.le_of_ble_eq_true rfl) (fun h => h)
    ·
      refine gm_iconst (v := -1) d_X11_as_18 (by decide) ?_
      exact gm_iret rfl d_X11_as_19 (Nat.le_of_ble_eq_true rfl) (Nat.le_of_ble_eq_true rfl) (fun h => h)
theorem d_X11_greatestCommon_0 : decode prog_1_method_51_code 0 = .ok (.iconst 0, 1) := ge_iconst_0 (by decide +kernel)
theorem d_X11_greatestCommon_1 : decode prog_1_method_51_code 1 = .ok (.istore_n 2, 1) := ge_istore_n_2 (by decide +kernel)
theorem d_X11_greatestCommon_2 : decode prog_1_method_51_code 2 = .ok (.iload_n 2, 1) := ge_iload_n_2 (by decide +kernel)
theorem d_X11_greatestCommon_3 : decode prog_1_method_51_code 3 = .ok (.bipush 100, 2) := ge_bipush (by decide +kernel)
theorem d_X11_greatestCommon_5 : decode prog_1_method_51_code 5 = .ok (.if_icmp .ge 21, 3) := ge_if_icmp_ge (by decide +kernel)
theorem d_X11_greatestCommon_8 : decode prog_1_method_51_code 8 = .ok (.iload_n 1, 1) := ge_iload_n_1 (by decide +kernel)
theorem d_X11_greatestCommon_9 : decode prog_1_method_51_code 9 = .ok (.ifCond .eq 17, 3) := ge_ifCond_eq (by decide +kernel)
theorem d_X11_greatestCommon_12 : decode prog_1_method_51_code 12 = .ok (.iload_n 0, 1) := ge_iload_n_0 (by decide +kernel)
theorem d_X11_greatestCommon_13 : decode prog_1_method_51_code 13 = .ok (.iload_n 1, 1) := ge_iload_n_1 (by decide +kernel)
theorem d_X11_greatestCommon_14 : decode prog_1_method_51_code 14 = .ok (.irem, 1) := ge_irem (by decide +kernel)
theorem d_X11_greatestCommon_15 : decode prog_1_method_51_code 15 = .ok (.istore_n 3, 1) := ge_istore_n_3 (by decide +kernel)
theorem d_X11_greatestCommon_16 : decode prog_1_method_51_code 16 = .ok (.iload_n 1, 1) := ge_iload_n_1 (by decide +kernel)
theorem d_X11_greatestCommon_17 : decode prog_1_method_51_code 17 = .ok (.istore_n 0, 1) := ge_istore_n_0 (by decide +kernel)
theorem d_X11_greatestCommon_18 : decode prog_1_method_51_code 18 = .ok (.iload_n 3, 1) := ge_iload_n_3 (by decide +kernel)
theorem d_X11_greatestCommon_19 : decode prog_1_method_51_code 19 = .ok (.istore_n 1, 1) := ge_istore_n_1 (by decide +kernel)
theorem d_X11_greatestCommon_20 : decode prog_1_method_51_code 20 = .ok (.iinc 2 1, 3) := ge_iinc (by decide +kernel)
theorem d_X11_greatestCommon_23 : decode prog_1_method_51_code 23 = .ok (.goto (-21), 3) := ge_goto (by decide +kernel)
theorem d_X11_greatestCommon_26 : decode prog_1_method_51_code 26 = .ok (.iload_n 0, 1) := ge_iload_n_0 (by decide +kernel)
theorem d_X11_greatestCommon_27 : decode prog_1_method_51_code 27 = .ok (.ireturn, 1) := ge_ireturn (by decide +kernel)
def f_X11_greatestCommon (a0 : Int32) (a1 : Int32) (μ : gm_M) : Option (Option Value × gm_M) := gm_loop (fun (s1 : Int32 × Int32 × Int32) => if (100 : Int32) ≤ s1.2.2 then some (Sum.inr (some (.int s1.1), μ)) else if s1.2.1 = 0 then some (Sum.inr (some (.int s1.1), μ)) else if s1.2.1 = 0 then none else some (Sum.inl (s1.2.1, (s1.1 - s1.1 / s1.2.1 * s1.2.1), (s1.2.2 + (1 : Int32))))) 5000 (a0, a1, (0 : Int32))
set_option maxHeartbeats 4000000 in
theorem c_X11_greatestCommon (a0 : Int32) (a1 : Int32) (μ : gm_M) : gm_Call ({ cls := "GumBubble", name := "greatestCommon", desc := "(II)I" } : Jvm.MethodName) prog_1_method_51_code 4 (some .int) 0 0 0 [.int a0, .int a1] μ (f_X11_greatestCommon a0 a1 μ) := by
  refine gm_start PN_11 (Nat.le_of_ble_eq_true rfl) (fun res μe => ?_)
  unfold f_X11_greatestCommon
  show gm_A "GumBubble" (gm_nm "greatestCommon") _ _ _ _ _ _ _ _ _ 0 [(0, .int a0), (1, .int a1)] [] _ _
  refine gm_iconst (v := 0) d_X11_greatestCommon_0 (by decide) ?_
  refine gm_istore_n (L' := [(2, .int (0 : Int32)), (0, .int a0), (1, .int a1)]) d_X11_greatestCommon_1 rfl (Nat.le_of_ble_eq_true rfl) rfl ?_
  refine gm_sub (L' := [(0, .int a0), (1, .int a1), (2, .int (0 : Int32))]) [1, 2, 0] rfl ?_
  refine gm_lp (S := Int32 × Int32 × Int32) (fun _ => 0) (fun _ => 0) (fun s1 => μ) (fun s1 => [(0, .int s1.1), (1, .int s1.2.1), (2, .int s1.2.2)]) (fun _ => []) (fun s1 => ?_) 5000 (a0, a1, (0 : Int32))
  refine gm_iload_n d_X11_greatestCommon_2 rfl 2 rfl ?_
  refine gm_bipush (v := 100) d_X11_greatestCommon_3 (by decide) ?_
  refine gm_icmp_ge (tgt := 26) d_X11_greatestCommon_5 (by decide) (fun h5 => ?_) (fun h5 => ?_)
  ·
    refine gm_iload_n d_X11_greatestCommon_26 rfl 0 rfl ?_
    exact gm_iret rfl d_X11_greatestCommon_27 (Nat.le_of_ble_eq_true rfl) (Nat.le_of_ble_eq_true rfl) (fun h => h)
  ·
    refine gm_iload_n d_X11_greatestCommon_8 rfl 1 rfl ?_
    refine gm_if_eq (tgt := 26) d_X11_greatestCommon_9 (by decide) (fun h9 => ?_) (fun h9 => ?_)
    ·
      refine gm_iload_n d_X11_greatestCommon_26 rfl 0 rfl ?_
      exact gm_iret rfl d_X11_greatestCommon_27 (Nat.le_of_ble_eq_true rfl) (Nat.le_of_ble_eq_true rfl) (fun h => h)
    ·
      refine gm_iload_n d_X11_greatestCommon_12 rfl 0 rfl ?_
      refine gm_iload_n d_X11_greatestCommon_13 rfl 1 rfl ?_
      refine gm_irem d_X11_greatestCommon_14 ?_
      refine gm_istore_n (L' := [(3, .int (s1.1 - s1.1 / s1.2.1 * s1.2.1)), (0, .int s1.1), (1, .int s1.2.1), (2, .int s1.2.2)]) d_X11_greatestCommon_15 rfl (Nat.le_of_ble_eq_true rfl) rfl ?_
      refine gm_iload_n d_X11_greatestCommon_16 rfl 2 rfl ?_
      refine gm_istore_n (L' := [(0, .int s1.2.1), (3, .int (s1.1 - s1.1 / s1.2.1 * s1.2.1)), (1, .int s1.2.1), (2, .int s1.2.2)]) d_X11_greatestCommon_17 rfl (Nat.le_of_ble_eq_true rfl) rfl ?_
      refine gm_iload_n d_X11_greatestCommon_18 rfl 1 rfl ?_
      refine gm_istore_n (L' := [(1, .int (s1.1 - s1.1 / s1.2.1 * s1.2.1)), (0, .int s1.2.1), (3, .int (s1.1 - s1.1 / s1.2.1 * s1.2.1)), (2, .int s1.2.2)]) d_X11_greatestCommon_19 rfl (Nat.le_of_ble_eq_true rfl) rfl ?_
      refine gm_iinc (v := s1.2.2 + (1 : Int32)) (L' := [(2, .int (s1.2.2 + (1 : Int32))), (1, .int (s1.1 - s1.1 / s1.2.1 * s1.2.1)), (0, .int s1.2.1), (3, .int (s1.1 - s1.1 / s1.2.1 * s1.2.1))]) d_X11_greatestCommon_20 3 rfl rfl (Nat.le_of_ble_eq_true rfl) rfl ?_
      refine gm_goto (tgt := 2) d_X11_greatestCommon_23 (by decide) ?_
      refine gm_sub (L' := [(0, .int s1.2.1), (1, .int (s1.1 - s1.1 / s1.2.1 * s1.2.1)), (2, .int (s1.2.2 + (1 : Int32)))]) [2, 1, 0] rfl ?_
      exact gm_back (fun h => h)
theorem d_X11_fraction_0 : decode prog_1_method_50_code 0 = .ok (.iload_n 0, 1) := ge_iload_n_0 (by decide +kernel)
theorem d_X11_fraction_1 : decode prog_1_method_50_code 1 = .ok (.iload_n 1, 1) := ge_iload_n_1 (by decide +kernel)
theorem d_X11_fraction_2 : decode prog_1_method_50_code 2 = .ok (.invokestatic 292, 3) := ge_invokestatic (by decide +kernel)
theorem d_X11_fraction_5 : decode prog_1_method_50_code 5 = .ok (.istore_n 3, 1) := ge_istore_n_3 (by decide +kernel)
theorem d_X11_fraction_6 : decode prog_1_method_50_code 6 = .ok (.iload_n 3, 1) := ge_iload_n_3 (by decide +kernel)
theorem d_X11_fraction_7 : decode prog_1_method_50_code 7 = .ok (.ifCond .ne 7, 3) := ge_ifCond_ne (by decide +kernel)
theorem d_X11_fraction_10 : decode prog_1_method_50_code 10 = .ok (.ldc2_w 202, 3) := ge_ldc2_w (by decide +kernel)
theorem d_X11_fraction_13 : decode prog_1_method_50_code 13 = .ok (.lreturn, 1) := ge_lreturn (by decide +kernel)
theorem d_X11_fraction_14 : decode prog_1_method_50_code 14 = .ok (.iload_n 2, 1) := ge_iload_n_2 (by decide +kernel)
theorem d_X11_fraction_15 : decode prog_1_method_50_code 15 = .ok (.ifCond .ne 10, 3) := ge_ifCond_ne (by decide +kernel)
theorem d_X11_fraction_18 : decode prog_1_method_50_code 18 = .ok (.iload_n 0, 1) := ge_iload_n_0 (by decide +kernel)
theorem d_X11_fraction_19 : decode prog_1_method_50_code 19 = .ok (.iload_n 3, 1) := ge_iload_n_3 (by decide +kernel)
theorem d_X11_fraction_20 : decode prog_1_method_50_code 20 = .ok (.idiv, 1) := ge_idiv (by decide +kernel)
theorem d_X11_fraction_21 : decode prog_1_method_50_code 21 = .ok (.i2l, 1) := ge_i2l (by decide +kernel)
theorem d_X11_fraction_22 : decode prog_1_method_50_code 22 = .ok (.goto 7, 3) := ge_goto (by decide +kernel)
theorem d_X11_fraction_25 : decode prog_1_method_50_code 25 = .ok (.iload_n 1, 1) := ge_iload_n_1 (by decide +kernel)
theorem d_X11_fraction_26 : decode prog_1_method_50_code 26 = .ok (.iload_n 3, 1) := ge_iload_n_3 (by decide +kernel)
theorem d_X11_fraction_27 : decode prog_1_method_50_code 27 = .ok (.idiv, 1) := ge_idiv (by decide +kernel)
theorem d_X11_fraction_28 : decode prog_1_method_50_code 28 = .ok (.i2l, 1) := ge_i2l (by decide +kernel)
theorem d_X11_fraction_29 : decode prog_1_method_50_code 29 = .ok (.lreturn, 1) := ge_lreturn (by decide +kernel)
def f_X11_fraction (a0 : Int32) (a1 : Int32) (a2 : Int32) (μ : gm_M) : Option (Option Value × gm_M) := gm_bI (f_X11_greatestCommon a0 a1 μ) (fun x2 m1 => if x2 ≠ 0 then gm_j (fun (s3 : Int64) => some (some (.long s3), m1)) (fun j4 => if a2 ≠ 0 then if x2 = 0 then none else j4 (Int32.toInt64 (a1 / x2)) else if x2 = 0 then none else j4 (Int32.toInt64 (a0 / x2))) else some (some (.long (-9223372036854775808 : Int64)), m1))
set_option maxHeartbeats 4000000 in
theorem c_X11_fraction (a0 : Int32) (a1 : Int32) (a2 : Int32) (μ : gm_M) : gm_Call ({ cls := "GumBubble", name := "fraction", desc := "(III)J" } : Jvm.MethodName) prog_1_method_50_code 4 (some .long) 1 0 0 [.int a0, .int a1, .int a2] μ (f_X11_fraction a0 a1 a2 μ) := by
  refine gm_start PN_11 (Nat.le_of_ble_eq_true rfl) (fun res μe => ?_)
  unfold f_X11_fraction
  show gm_A "GumBubble" (gm_nm "fraction") _ _ _ _ _ _ _ _ _ 0 [(0, .int a0), (1, .int a1), (2, .int a2)] [] _ _
  refine gm_iload_n d_X11_fraction_0 rfl 0 rfl ?_
  refine gm_iload_n d_X11_fraction_1 rfl 1 rfl ?_
  refine gm_callS [.int a0, .int a1] (c_X11_greatestCommon a0 a1 μ) B_X11_greatestCommon gw_665 rfl rfl rfl d_X11_fraction_2 (gm_kI (fun x2 m1 => ?_))
  refine gm_istore_n (L' := [(3, .int x2), (0, .int a0), (1, .int a1), (2, .int a2)]) d_X11_fraction_5 rfl (Nat.le_of_ble_eq_true rfl) rfl ?_
  refine gm_iload_n d_X11_fraction_6 rfl 0 rfl ?_
  refine gm_if_ne (tgt := 14) d_X11_fraction_7 (by decide) (fun h7 => ?_) (fun h7 => ?_)
  ·
    refine gm_iload_n d_X11_fraction_14 rfl 3 rfl ?_
    refine gm_join (S := Int64) (pj := 29) (kj := 0) (nj := 0) (fun s3 => m1) (fun s3 => [(0, .int a0), (1, .int a1), (2, .int a2), (3, .int x2)]) (fun s3 => [.long s3]) (fun s3 => ?_) (fun j4 hj4 => ?_)
    ·
      exact gm_lret rfl d_X11_fraction_29 (Nat.le_of_ble_eq_true rfl) (Nat.le_of_ble_eq_true rfl) (fun h => h)
    ·
      refine gm_if_ne (tgt := 25) d_X11_fraction_15 (by decide) (fun h15 => ?_) (fun h15 => ?_)
      ·
        refine gm_iload_n d_X11_fraction_25 rfl 2 rfl ?_
        refine gm_iload_n d_X11_fraction_26 rfl 0 rfl ?_
        refine gm_idiv d_X11_fraction_27 ?_
        refine gm_i2l d_X11_fraction_28 ?_
        refine gm_sub (L' := [(0, .int a0), (1, .int a1), (2, .int a2), (3, .int x2)]) [1, 2, 3, 0] rfl ?_
        exact hj4 (Int32.toInt64 (a1 / x2))
      ·
        refine gm_iload_n d_X11_fraction_18 rfl 1 rfl ?_
        refine gm_iload_n d_X11_fraction_19 rfl 0 rfl ?_
        refine gm_idiv d_X11_fraction_20 ?_
        refine gm_i2l d_X11_fraction_21 ?_
        refine gm_goto (tgt := 29) d_X11_fraction_22 (by decide) ?_
        refine gm_sub (L' := [(0, .int a0), (1, .int a1), (2, .int a2), (3, .int x2)]) [1, 2, 3, 0] rfl ?_
        exact hj4 (Int32.toInt64 (a0 / x2))
  ·
    refine gm_ldc2 (v := -9223372036854775808) gw_652 d_X11_fraction_10 ?_
    exact gm_lret rfl d_X11_fraction_13 (Nat.le_of_ble_eq_true rfl) (Nat.le_of_ble_eq_true rfl) (fun h => h)
theorem d_X1_dares_0 : decode prog_3_method_4_code 0 = .ok (.iconst 0, 1) := ge_iconst_0 (by decide +kernel)
theorem d_X1_dares_1 : decode prog_3_method_4_code 1 = .ok (.iload_n 1, 1) := ge_iload_n_1 (by decide +kernel)
theorem d_X1_dares_2 : decode prog_3_method_4_code 2 = .ok (.bipush 10, 2) := ge_bipush (by decide +kernel)
theorem d_X1_dares_4 : decode prog_3_method_4_code 4 = .ok (.isub, 1) := ge_isub (by decide +kernel)
theorem d_X1_dares_5 : decode prog_3_method_4_code 5 = .ok (.invokestatic 17, 3) := ge_invokestatic (by decide +kernel)
theorem d_X1_dares_8 : decode prog_3_method_4_code 8 = .ok (.ireturn, 1) := ge_ireturn (by decide +kernel)
def f_X1_dares (a0 : Nat) (a1 : Int32) (μ : gm_M) : Option (Option Value × gm_M) := some (some (.int (if (0 : Int32) < (a1 - (10 : Int32)) then (a1 - (10 : Int32)) else (0 : Int32))), μ)
set_option maxHeartbeats 4000000 in
theorem c_X1_dares (a0 : Nat) (a1 : Int32) (μ : gm_M) : gm_Call ({ cls := "GumBubble$Careful", name := "dares", desc := "(I)I" } : Jvm.MethodName) prog_3_method_4_code 2 (some .int) 1 0 0 [.ref a0, .int a1] μ (f_X1_dares a0 a1 μ) := by
  refine gm_start PN_1 (Nat.le_of_ble_eq_true rfl) (fun res μe => ?_)
  unfold f_X1_dares
  show gm_A "GumBubble$Careful" (gm_nm "dares") _ _ _ _ _ _ _ _ _ 0 [(0, .ref a0), (1, .int a1)] [] _ _
  refine gm_iconst (v := 0) d_X1_dares_0 (by decide) ?_
  refine gm_iload_n d_X1_dares_1 rfl 1 rfl ?_
  refine gm_bipush (v := 10) d_X1_dares_2 (by decide) ?_
  refine gm_isub d_X1_dares_4 ?_
  refine gm_max gw_558 gw_38 gw_3 (show _ from gw_39) (Nat.le_of_ble_eq_true rfl) (Nat.le_of_ble_eq_true rfl) (Nat.le_of_ble_eq_true rfl) (Nat.le_of_ble_eq_true rfl) rfl d_X1_dares_5 ?_
  exact gm_iret rfl d_X1_dares_8 (Nat.le_of_ble_eq_true rfl) (Nat.le_of_ble_eq_true rfl) (fun h => h)
theorem d_X5_dares_0 : decode prog_7_method_4_code 0 = .ok (.iload_n 1, 1) := ge_iload_n_1 (by decide +kernel)
theorem d_X5_dares_1 : decode prog_7_method_4_code 1 = .ok (.ireturn, 1) := ge_ireturn (by decide +kernel)
def f_X5_dares (a0 : Nat) (a1 : Int32) (μ : gm_M) : Option (Option Value × gm_M) := some (some (.int a1), μ)
set_option maxHeartbeats 4000000 in
theorem c_X5_dares (a0 : Nat) (a1 : Int32) (μ : gm_M) : gm_Call ({ cls := "GumBubble$Plain", name := "dares", desc := "(I)I" } : Jvm.MethodName) prog_7_method_4_code 2 (some .int) 0 0 0 [.ref a0, .int a1] μ (f_X5_dares a0 a1 μ) := by
  refine gm_start PN_5 (Nat.le_of_ble_eq_true rfl) (fun res μe => ?_)
  unfold f_X5_dares
  show gm_A "GumBubble$Plain" (gm_nm "dares") _ _ _ _ _ _ _ _ _ 0 [(0, .ref a0), (1, .int a1)] [] _ _
  refine gm_iload_n d_X5_dares_0 rfl 1 rfl ?_
  exact gm_iret rfl d_X5_dares_1 (Nat.le_of_ble_eq_true rfl) (Nat.le_of_ble_eq_true rfl) (fun h => h)
def fv_dares (r : Nat) (b0 : Int32) (μ : gm_M) : Option (Option Value × gm_M) := if gm_tag μ r = 10 then f_X5_dares r b0 μ else if gm_tag μ r = 11 then f_X5_dares r b0 μ else if gm_tag μ r = 14 then f_X5_dares r b0 μ else if gm_tag μ r = 8 then f_X5_dares r b0 μ else if gm_tag μ r = 9 then f_X5_dares r b0 μ else if gm_tag μ r = 6 then f_X1_dares r b0 μ else if gm_tag μ r = 15 then f_X5_dares r b0 μ else none
theorem V_dares {own : String} {nm : gm_Nm} {cc : ByteArray} {nL : Nat} {rt : Option FieldType} {R : Room} {res : Option Value} {μe : gm_M} {β : Type} {k n : Nat} {μ : gm_M} {pc : Nat} {L : List (Nat × Value)} {st : List Value} {z : Option β} {κ : β → Prop} (r : Nat) (b0 : Int32) {index : Nat} {st0 : List Value} (hw1 : Jvm.Cond.methodLink own index ({ cls := "GumBubble$Plain", name := "dares", desc := "(I)I" } : Jvm.MethodName) ∈ gm_G) (hfit : gm_fit R k n 0 0 1 2 = true) (hst : st0 = [.int b0].reverse ++ .ref r :: st) (hsm : gm_sum st = true) (hd : decode cc pc = .ok (.invokevirtual index, 3))
    (kk : gm_K2 own nm cc nL rt R res μe (k + 0) (n + 0) (pc + 3) L st (fv_dares r b0 μ) z κ) : gm_A own nm cc nL rt R res μe k n μ pc L st0 z κ := by
  unfold fv_dares at kk
  by_cases h5 : gm_tag μ r = 10
  · rw [if_pos h5] at kk
    exact gm_callV (k0 := 5) [.int b0] (c_X5_dares r b0 μ) h5 rfl B_X5_dares hw1 gw_553 (gm_fit_le hfit (Nat.le_of_ble_eq_true rfl) (Nat.le_of_ble_eq_true rfl)) hst hsm hd kk
  rw [if_neg h5] at kk
  by_cases h6 : gm_tag μ r = 11
  · rw [if_pos h6] at kk
    exact gm_callU (k0 := 6) [.int b0] (c_X5_dares r b0 μ) h6 rfl MH_5 NP_X5_dares B_X5_dares hw1 gw_554 gw_552 gw_564 gw_561 (gm_fit_le hfit (Nat.le_of_ble_eq_true rfl) (Nat.le_of_ble_eq_true rfl)) hst hsm hd kk
  rw [if_neg h6] at kk
  by_cases h9 : gm_tag μ r = 14
  · rw [if_pos h9] at kk
    exact gm_callU (k0 := 9) [.int b0] (c_X5_dares r b0 μ) h9 rfl MH_5 NP_X5_dares B_X5_dares hw1 gw_554 gw_552 gw_564 gw_562 (gm_fit_le hfit (Nat.le_of_ble_eq_true rfl) (Nat.le_of_ble_eq_true rfl)) hst hsm hd kk
  rw [if_neg h9] at kk
  by_cases h3 : gm_tag μ r = 8
  · rw [if_pos h3] at kk
    exact gm_callU (k0 := 3) [.int b0] (c_X5_dares r b0 μ) h3 rfl MH_5 NP_X5_dares B_X5_dares hw1 gw_554 gw_552 gw_564 gw_559 (gm_fit_le hfit (Nat.le_of_ble_eq_true rfl) (Nat.le_of_ble_eq_true rfl)) hst hsm hd kk
  rw [if_neg h3] at kk
  by_cases h4 : gm_tag μ r = 9
  · rw [if_pos h4] at kk
    exact gm_callU (k0 := 4) [.int b0] (c_X5_dares r b0 μ) h4 rfl MH_5 NP_X5_dares B_X5_dares hw1 gw_554 gw_552 gw_564 gw_560 (gm_fit_le hfit (Nat.le_of_ble_eq_true rfl) (Nat.le_of_ble_eq_true rfl)) hst hsm hd kk
  rw [if_neg h4] at kk
  by_cases h1 : gm_tag μ r = 6
  · rw [if_pos h1] at kk
    exact gm_callU (k0 := 1) [.int b0] (c_X1_dares r b0 μ) h1 rfl MH_5 NP_X5_dares B_X1_dares hw1 gw_554 gw_552 gw_564 gw_555 (gm_fit_le hfit (Nat.le_of_ble_eq_true rfl) (Nat.le_of_ble_eq_true rfl)) hst hsm hd kk
  rw [if_neg h1] at kk
  by_cases h10 : gm_tag μ r = 15
  · rw [if_pos h10] at kk
    exact gm_callU (k0 := 10) [.int b0] (c_X5_dares r b0 μ) h10 rfl MH_5 NP_X5_dares B_X5_dares hw1 gw_554 gw_552 gw_564 gw_563 (gm_fit_le hfit (Nat.le_of_ble_eq_true rfl) (Nat.le_of_ble_eq_true rfl)) hst hsm hd kk
  rw [if_neg h10] at kk
  obtain ⟨k0, -⟩ := kk
  rw [k0 rfl]
  exact gm_no
theorem d_X2_holds_0 : decode prog_4_method_4_code 0 = .ok (.aload_n 1, 1) := ge_aload_n_1 (by decide +kernel)
theorem d_X2_holds_1 : decode prog_4_method_4_code 1 = .ok (.aload_n 0, 1) := ge_aload_n_0 (by decide +kernel)
theorem d_X2_holds_2 : decode prog_4_method_4_code 2 = .ok (.iload_n 2, 1) := ge_iload_n_2 (by decide +kernel)
theorem d_X2_holds_3 : decode prog_4_method_4_code 3 = .ok (.invokevirtual 47, 3) := ge_invokevirtual (by decide +kernel)
theorem d_X2_holds_6 : decode prog_4_method_4_code 6 = .ok (.istore_n 3, 1) := ge_istore_n_3 (by decide +kernel)
theorem d_X2_holds_7 : decode prog_4_method_4_code 7 = .ok (.aload_n 0, 1) := ge_aload_n_0 (by decide +kernel)
theorem d_X2_holds_8 : decode prog_4_method_4_code 8 = .ok (.getfield 26, 3) := ge_getfield (by decide +kernel)
theorem d_X2_holds_11 : decode prog_4_method_4_code 11 = .ok (.iload_n 3, 1) := ge_iload_n_3 (by decide +kernel)
theorem d_X2_holds_12 : decode prog_4_method_4_code 12 = .ok (.imul, 1) := ge_imul (by decide +kernel)
theorem d_X2_holds_13 : decode prog_4_method_4_code 13 = .ok (.aload_n 0, 1) := ge_aload_n_0 (by decide +kernel)
theorem d_X2_holds_14 : decode prog_4_method_4_code 14 = .ok (.getfield 29, 3) := ge_getfield (by decide +kernel)
theorem d_X2_holds_17 : decode prog_4_method_4_code 17 = .ok (.isub, 1) := ge_isub (by decide +kernel)
theorem d_X2_holds_18 : decode prog_4_method_4_code 18 = .ok (.aload_n 0, 1) := ge_aload_n_0 (by decide +kernel)
theorem d_X2_holds_19 : decode prog_4_method_4_code 19 = .ok (.getfield 32, 3) := ge_getfield (by decide +kernel)
theorem d_X2_holds_22 : decode prog_4_method_4_code 22 = .ok (.iconst 2, 1) := ge_iconst_2 (by decide +kernel)
theorem d_X2_holds_23 : decode prog_4_method_4_code 23 = .ok (.idiv, 1) := ge_idiv (by decide +kernel)
theorem d_X2_holds_24 : decode prog_4_method_4_code 24 = .ok (.isub, 1) := ge_isub (by decide +kernel)
theorem d_X2_holds_25 : decode prog_4_method_4_code 25 = .ok (.aload_n 1, 1) := ge_aload_n_1 (by decide +kernel)
theorem d_X2_holds_26 : decode prog_4_method_4_code 26 = .ok (.getfield 53, 3) := ge_getfield (by decide +kernel)
theorem d_X2_holds_29 : decode prog_4_method_4_code 29 = .ok (.isub, 1) := ge_isub (by decide +kernel)
theorem d_X2_holds_30 : decode prog_4_method_4_code 30 = .ok (.istore 4, 2) := ge_istore (by decide +kernel)
theorem d_X2_holds_32 : decode prog_4_method_4_code 32 = .ok (.aload_n 0, 1) := ge_aload_n_0 (by decide +kernel)
theorem d_X2_holds_33 : decode prog_4_method_4_code 33 = .ok (.getfield 19, 3) := ge_getfield (by decide +kernel)
theorem d_X2_holds_36 : decode prog_4_method_4_code 36 = .ok (.iconst 0, 1) := ge_iconst_0 (by decide +kernel)
theorem d_X2_holds_37 : decode prog_4_method_4_code 37 = .ok (.iload 4, 2) := ge_iload (by decide +kernel)
theorem d_X2_holds_39 : decode prog_4_method_4_code 39 = .ok (.invokestatic 56, 3) := ge_invokestatic (by decide +kernel)
theorem d_X2_holds_42 : decode prog_4_method_4_code 42 = .ok (.invokevirtual 62, 3) := ge_invokevirtual (by decide +kernel)
theorem d_X2_holds_45 : decode prog_4_method_4_code 45 = .ok (.ireturn, 1) := ge_ireturn (by decide +kernel)
def f_X2_holds (a0 : Nat) (a1 : Nat) (a2 : Int32) (μ : gm_M) : Option (Option Value × gm_M) := if gm_tag μ a1 = 5 then gm_bI (f_X0_stretchOf a1 a0 a2 μ) (fun x2 m1 => gm_gI m1 [7] a0 3 (fun v3 => gm_gI m1 [7] a0 4 (fun v4 => gm_gI m1 [7] a0 5 (fun v5 => if (2 : Int32) = 0 then none else gm_gI m1 [5] a1 0 (fun v6 => gm_gR m1 [7] a0 1 (fun v7 => gm_bI (fv_dares v7 (if (0 : Int32) < ((((v3 * x2) - v4) - (v5 / (2 : Int32))) - v6) then ((((v3 * x2) - v4) - (v5 / (2 : Int32))) - v6) else (0 : Int32)) m1) (fun x10 m9 => some (some (.int x10), m9)))))))) else none
set_option maxHeartbeats 4000000 in
theorem c_X2_holds (a0 : Nat) (a1 : Nat) (a2 : Int32) (μ : gm_M) : gm_Call ({ cls := "GumBubble$Child", name := "holds", desc := "(LGumBubble$Afternoon;I)I" } : Jvm.MethodName) prog_4_method_4_code 5 (some .int) 3 0 0 [.ref a0, .ref a1, .int a2] μ (f_X2_holds a0 a1 a2 μ) := by
  refine gm_start PN_2 (Nat.le_of_ble_eq_true rfl) (fun res μe => ?_)
  unfold f_X2_holds
  show gm_A "GumBubble$Child" (gm_nm "holds") _ _ _ _ _ _ _ _ _ 0 [(0, .ref a0), (1, .ref a1), (2, .int a2)] [] _ _
  refine gm_aload_n d_X2_holds_0 rfl 1 rfl ?_
  refine gm_aload_n d_X2_holds_1 rfl 0 rfl ?_
  refine gm_iload_n d_X2_holds_2 rfl 2 rfl ?_
  refine gm_grd (fun g3 => ?_)
  refine gm_callV (k0 := 0) [.ref a0, .int a2] (c_X0_stretchOf a1 a0 a2 μ) g3 rfl B_X0_stretchOf gw_549 gw_484 rfl rfl rfl d_X2_holds_3 (gm_kI (fun x2 m1 => ?_))
  refine gm_istore_n (L' := [(3, .int x2), (0, .ref a0), (1, .ref a1), (2, .int a2)]) d_X2_holds_6 rfl (Nat.le_of_ble_eq_true rfl) rfl ?_
  refine gm_aload_n d_X2_holds_7 rfl 1 rfl ?_
  refine gm_getI F_2_pieces gw_180 d_X2_holds_8 (fun v3 _ => ?_)
  refine gm_iload_n d_X2_holds_11 rfl 0 rfl ?_
  refine gm_imul d_X2_holds_12 ?_
  refine gm_aload_n d_X2_holds_13 rfl 1 rfl ?_
  refine gm_getI F_2_sugar gw_187 d_X2_holds_14 (fun v4 _ => ?_)
  refine gm_isub d_X2_holds_17 ?_
  refine gm_aload_n d_X2_holds_18 rfl 1 rfl ?_
  refine gm_getI F_2_jaw gw_190 d_X2_holds_19 (fun v5 _ => ?_)
  refine gm_iconst (v := 2) d_X2_holds_22 (by decide) ?_
  refine gm_idiv d_X2_holds_23 ?_
  refine gm_isub d_X2_holds_24 ?_
  refine gm_aload_n d_X2_holds_25 rfl 2 rfl ?_
  refine gm_getI F_0_wind gw_126 d_X2_holds_26 (fun v6 _ => ?_)
  refine gm_isub d_X2_holds_29 ?_
  refine gm_istore (L' := [(4, .int ((((v3 * x2) - v4) - (v5 / (2 : Int32))) - v6)), (3, .int x2), (0, .ref a0), (1, .ref a1), (2, .int a2)]) d_X2_holds_30 (Nat.le_of_ble_eq_true rfl) rfl ?_
  refine gm_aload_n d_X2_holds_32 rfl 2 rfl ?_
  refine gm_getR F_2_kind gw_171 d_X2_holds_33 (fun v7 _ => ?_)
  refine gm_iconst (v := 0) d_X2_holds_36 (by decide) ?_
  refine gm_iload d_X2_holds_37 0 rfl ?_
  refine gm_max gw_550 gw_38 gw_3 (show _ from gw_39) (Nat.le_of_ble_eq_true rfl) (Nat.le_of_ble_eq_true rfl) (Nat.le_of_ble_eq_true rfl) (Nat.le_of_ble_eq_true rfl) rfl d_X2_holds_39 ?_
  refine V_dares v7 (if (0 : Int32) < ((((v3 * x2) - v4) - (v5 / (2 : Int32))) - v6) then ((((v3 * x2) - v4) - (v5 / (2 : Int32))) - v6) else (0 : Int32)) gw_551 rfl rfl rfl d_X2_holds_42 (gm_kI (fun x10 m9 => ?_))
  exact gm_iret rfl d_X2_holds_45 (Nat.le_of_ble_eq_true rfl) (Nat.le_of_ble_eq_true rfl) (fun h => h)
theorem d_X11_holdsNow_0 : decode prog_1_method_42_code 0 = .ok (.aload_n 0, 1) := ge_aload_n_0 (by decide +kernel)
theorem d_X11_holdsNow_1 : decode prog_1_method_42_code 1 = .ok (.getfield 60, 3) := ge_getfield (by decide +kernel)
theorem d_X11_holdsNow_4 : decode prog_1_method_42_code 4 = .ok (.getfield 104, 3) := ge_getfield (by decide +kernel)
theorem d_X11_holdsNow_7 : decode prog_1_method_42_code 7 = .ok (.iload_n 1, 1) := ge_iload_n_1 (by decide +kernel)
theorem d_X11_holdsNow_8 : decode prog_1_method_42_code 8 = .ok (.aaload, 1) := ge_aaload (by decide +kernel)
theorem d_X11_holdsNow_9 : decode prog_1_method_42_code 9 = .ok (.aload_n 0, 1) := ge_aload_n_0 (by decide +kernel)
theorem d_X11_holdsNow_10 : decode prog_1_method_42_code 10 = .ok (.getfield 60, 3) := ge_getfield (by decide +kernel)
theorem d_X11_holdsNow_13 : decode prog_1_method_42_code 13 = .ok (.getfield 97, 3) := ge_getfield (by decide +kernel)
theorem d_X11_holdsNow_16 : decode prog_1_method_42_code 16 = .ok (.aload_n 0, 1) := ge_aload_n_0 (by decide +kernel)
theorem d_X11_holdsNow_17 : decode prog_1_method_42_code 17 = .ok (.getfield 60, 3) := ge_getfield (by decide +kernel)
theorem d_X11_holdsNow_20 : decode prog_1_method_42_code 20 = .ok (.getfield 144, 3) := ge_getfield (by decide +kernel)
theorem d_X11_holdsNow_23 : decode prog_1_method_42_code 23 = .ok (.invokevirtual 193, 3) := ge_invokevirtual (by decide +kernel)
theorem d_X11_holdsNow_26 : decode prog_1_method_42_code 26 = .ok (.ireturn, 1) := ge_ireturn (by decide +kernel)
def f_X11_holdsNow (a0 : Nat) (a1 : Int32) (μ : gm_M) : Option (Option Value × gm_M) := gm_gR μ [16] a0 1 (fun v1 => gm_gR μ [13] v1 2 (fun v2 => gm_aR μ 4 v2 a1 (fun v3 => gm_gR μ [16] a0 1 (fun v4 => gm_gR μ [13] v4 6 (fun v5 => gm_gR μ [16] a0 1 (fun v6 => gm_gI μ [13] v6 0 (fun v7 => if gm_tag μ v3 = 7 then gm_bI (f_X2_holds v3 v5 v7 μ) (fun x9 m8 => some (some (.int x9), m8)) else none)))))))
set_option maxHeartbeats 4000000 in
theorem c_X11_holdsNow (a0 : Nat) (a1 : Int32) (μ : gm_M) : gm_Call ({ cls := "GumBubble", name := "holdsNow", desc := "(I)I" } : Jvm.MethodName) prog_1_method_42_code 2 (some .int) 4 0 0 [.ref a0, .int a1] μ (f_X11_holdsNow a0 a1 μ) := by
  refine gm_start PN_11 (Nat.le_of_ble_eq_true rfl) (fun res μe => ?_)
  unfold f_X11_holdsNow
  show gm_A "GumBubble" (gm_nm "holdsNow") _ _ _ _ _ _ _ _ _ 0 [(0, .ref a0), (1, .int a1)] [] _ _
  refine gm_aload_n d_X11_holdsNow_0 rfl 0 rfl ?_
  refine gm_getR F_11_now gw_262 d_X11_holdsNow_1 (fun v1 _ => ?_)
  refine gm_getR F_8_children gw_223 d_X11_holdsNow_4 (fun v2 _ => ?_)
  refine gm_iload_n d_X11_holdsNow_7 rfl 1 rfl ?_
  refine gm_aald (Or.inr rfl) d_X11_holdsNow_8 (fun v3 _ => ?_)
  refine gm_aload_n d_X11_holdsNow_9 rfl 0 rfl ?_
  refine gm_getR F_11_now gw_262 d_X11_holdsNow_10 (fun v4 _ => ?_)
  refine gm_getR F_8_afternoon gw_231 d_X11_holdsNow_13 (fun v5 _ => ?_)
  refine gm_aload_n d_X11_holdsNow_16 rfl 0 rfl ?_
  refine gm_getR F_11_now gw_262 d_X11_holdsNow_17 (fun v6 _ => ?_)
  refine gm_getI F_8_minute gw_219 d_X11_holdsNow_20 (fun v7 _ => ?_)
  refine gm_grd (fun g23 => ?_)
  refine gm_callV (k0 := 2) [.ref v5, .int v7] (c_X2_holds v3 v5 v7 μ) g23 rfl B_X2_holds gw_545 gw_547 rfl rfl rfl d_X11_holdsNow_23 (gm_kI (fun x9 m8 => ?_))
  exact gm_iret rfl d_X11_holdsNow_26 (Nat.le_of_ble_eq_true rfl) (Nat.le_of_ble_eq_true rfl) (fun h => h)
theorem d_X11_thinned_0 : decode prog_1_method_47_code 0 = .ok (.iconst 0, 1) := ge_iconst_0 (by decide +kernel)
theorem d_X11_thinned_1 : decode prog_1_method_47_code 1 = .ok (.iload_n 0, 1) := ge_iload_n_0 (by decide +kernel)
theorem d_X11_thinned_2 : decode prog_1_method_47_code 2 = .ok (.iconst 5, 1) := ge_iconst_5 (by decide +kernel)
theorem d_X11_thinned_3 : decode prog_1_method_47_code 3 = .ok (.iload_n 1, 1) := ge_iload_n_1 (by decide +kernel)
theorem d_X11_thinned_4 : decode prog_1_method_47_code 4 = .ok (.imul, 1) := ge_imul (by decide +kernel)
theorem d_X11_thinned_5 : decode prog_1_method_47_code 5 = .ok (.isub, 1) := ge_isub (by decide +kernel)
theorem d_X11_thinned_6 : decode prog_1_method_47_code 6 = .ok (.invokestatic 197, 3) := ge_invokestatic (by decide +kernel)
theorem d_X11_thinned_9 : decode prog_1_method_47_code 9 = .ok (.ireturn, 1) := ge_ireturn (by decide +kernel)
def f_X11_thinned (a0 : Int32) (a1 : Int32) (μ : gm_M) : Option (Option Value × gm_M) := some (some (.int (if (0 : Int32) < (a0 - ((5 : Int32) * a1)) then (a0 - ((5 : Int32) * a1)) else (0 : Int32))), μ)
set_option maxHeartbeats 4000000 in
theorem c_X11_thinned (a0 : Int32) (a1 : Int32) (μ : gm_M) : gm_Call ({ cls := "GumBubble", name := "thinned", desc := "(II)I" } : Jvm.MethodName) prog_1_method_47_code 2 (some .int) 1 0 0 [.int a0, .int a1] μ (f_X11_thinned a0 a1 μ) := by
  refine gm_start PN_11 (Nat.le_of_ble_eq_true rfl) (fun res μe => ?_)
  unfold f_X11_thinned
  show gm_A "GumBubble" (gm_nm "thinned") _ _ _ _ _ _ _ _ _ 0 [(0, .int a0), (1, .int a1)] [] _ _
  refine gm_iconst (v := 0) d_X11_thinned_0 (by decide) ?_
  refine gm_iload_n d_X11_thinned_1 rfl 0 rfl ?_
  refine gm_iconst (v := 5) d_X11_thinned_2 (by decide) ?_
  refine gm_iload_n d_X11_thinned_3 rfl 1 rfl ?_
  refine gm_imul d_X11_thinned_4 ?_
  refine gm_isub d_X11_thinned_5 ?_
  refine gm_max gw_643 gw_38 gw_3 (show _ from gw_39) (Nat.le_of_ble_eq_true rfl) (Nat.le_of_ble_eq_true rfl) (Nat.le_of_ble_eq_true rfl) (Nat.le_of_ble_eq_true rfl) rfl d_X11_thinned_6 ?_
  exact gm_iret rfl d_X11_thinned_9 (Nat.le_of_ble_eq_true rfl) (Nat.le_of_ble_eq_true rfl) (fun h => h)
theorem d_X11_thinsBelow_0 : decode prog_1_method_49_code 0 = .ok (.iconst 0, 1) := ge_iconst_0 (by decide +kernel)
theorem d_X11_thinsBelow_1 : decode prog_1_method_49_code 1 = .ok (.istore_n 2, 1) := ge_istore_n_2 (by decide +kernel)
theorem d_X11_thinsBelow_2 : decode prog_1_method_49_code 2 = .ok (.iconst 0, 1) := ge_iconst_0 (by decide +kernel)
theorem d_X11_thinsBelow_3 : decode prog_1_method_49_code 3 = .ok (.istore_n 3, 1) := ge_istore_n_3 (by decide +kernel)
theorem d_X11_thinsBelow_4 : decode prog_1_method_49_code 4 = .ok (.iload_n 3, 1) := ge_iload_n_3 (by decide +kernel)
theorem d_X11_thinsBelow_5 : decode prog_1_method_49_code 5 = .ok (.bipush 10, 2) := ge_bipush (by decide +kernel)
theorem d_X11_thinsBelow_7 : decode prog_1_method_49_code 7 = .ok (.if_icmp .ge 21, 3) := ge_if_icmp_ge (by decide +kernel)
theorem d_X11_thinsBelow_10 : decode prog_1_method_49_code 10 = .ok (.iload_n 0, 1) := ge_iload_n_0 (by decide +kernel)
theorem d_X11_thinsBelow_11 : decode prog_1_method_49_code 11 = .ok (.iload_n 3, 1) := ge_iload_n_3 (by decide +kernel)
theorem d_X11_thinsBelow_12 : decode prog_1_method_49_code 12 = .ok (.invokestatic 211, 3) := ge_invokestatic (by decide +kernel)
theorem d_X11_thinsBelow_15 : decode prog_1_method_49_code 15 = .ok (.iload_n 1, 1) := ge_iload_n_1 (by decide +kernel)
theorem d_X11_thinsBelow_16 : decode prog_1_method_49_code 16 = .ok (.if_icmp .ge 6, 3) := ge_if_icmp_ge (by decide +kernel)
theorem d_X11_thinsBelow_19 : decode prog_1_method_49_code 19 = .ok (.iinc 2 1, 3) := ge_iinc (by decide +kernel)
theorem d_X11_thinsBelow_22 : decode prog_1_method_49_code 22 = .ok (.iinc 3 1, 3) := ge_iinc (by decide +kernel)
theorem d_X11_thinsBelow_25 : decode prog_1_method_49_code 25 = .ok (.goto (-21), 3) := ge_goto (by decide +kernel)
theorem d_X11_thinsBelow_28 : decode prog_1_method_49_code 28 = .ok (.iload_n 2, 1) := ge_iload_n_2 (by decide +kernel)
theorem d_X11_thinsBelow_29 : decode prog_1_method_49_code 29 = .ok (.ireturn, 1) := ge_ireturn (by decide +kernel)
def f_X11_thinsBelow (a0 : Int32) (a1 : Int32) (μ : gm_M) : Option (Option Value × gm_M) := gm_loop (fun (s1 : Int32 × Int32 × gm_M) => if (10 : Int32) ≤ s1.2.1 then some (Sum.inr (some (.int s1.1), s1.2.2)) else gm_bI (f_X11_thinned a0 s1.2.1 s1.2.2) (fun x3 m2 => gm_j (fun (s4 : Int32) => some (Sum.inl (s4, (s1.2.1 + (1 : Int32)), m2))) (fun j5 => if a1 ≤ x3 then j5 s1.1 else j5 (s1.1 + (1 : Int32))))) 5000 ((0 : Int32), (0 : Int32), μ)
set_option maxHeartbeats 4000000 in
theorem c_X11_thinsBelow (a0 : Int32) (a1 : Int32) (μ : gm_M) : gm_Call ({ cls := "GumBubble", name := "thinsBelow", desc := "(II)I" } : Jvm.MethodName) prog_1_method_49_code 4 (some .int) 2 0 0 [.int a0, .int a1] μ (f_X11_thinsBelow a0 a1 μ) := by
  refine gm_start PN_11 (Nat.le_of_ble_eq_true rfl) (fun res μe => ?_)
  unfold f_X11_thinsBelow
  show gm_A "GumBubble" (gm_nm "thinsBelow") _ _ _ _ _ _ _ _ _ 0 [(0, .int a0), (1, .int a1)] [] _ _
  refine gm_iconst (v := 0) d_X11_thinsBelow_0 (by decide) ?_
  refine gm_istore_n (L' := [(2, .int (0 : Int32)), (0, .int a0), (1, .int a1)]) d_X11_thinsBelow_1 rfl (Nat.le_of_ble_eq_true rfl) rfl ?_
  refine gm_iconst (v := 0) d_X11_thinsBelow_2 (by decide) ?_
  refine gm_istore_n (L' := [(3, .int (0 : Int32)), (2, .int (0 : Int32)), (0, .int a0), (1, .int a1)]) d_X11_thinsBelow_3 rfl (Nat.le_of_ble_eq_true rfl) rfl ?_
  refine gm_sub (L' := [(0, .int a0), (1, .int a1), (2, .int (0 : Int32)), (3, .int (0 : Int32))]) [2, 3, 1, 0] rfl ?_
  refine gm_lp (S := Int32 × Int32 × gm_M) (fun _ => 0) (fun _ => 0) (fun s1 => s1.2.2) (fun s1 => [(0, .int a0), (1, .int a1), (2, .int s1.1), (3, .int s1.2.1)]) (fun _ => []) (fun s1 => ?_) 5000 ((0 : Int32), (0 : Int32), μ)
  refine gm_iload_n d_X11_thinsBelow_4 rfl 3 rfl ?_
  refine gm_bipush (v := 10) d_X11_thinsBelow_5 (by decide) ?_
  refine gm_icmp_ge (tgt := 28) d_X11_thinsBelow_7 (by decide) (fun h7 => ?_) (fun h7 => ?_)
  ·
    refine gm_iload_n d_X11_thinsBelow_28 rfl 2 rfl ?_
    exact gm_iret rfl d_X11_thinsBelow_29 (Nat.le_of_ble_eq_true rfl) (Nat.le_of_ble_eq_true rfl) (fun h => h)
  ·
    refine gm_iload_n d_X11_thinsBelow_10 rfl 0 rfl ?_
    refine gm_iload_n d_X11_thinsBelow_11 rfl 3 rfl ?_
    refine gm_callS [.int a0, .int s1.2.1] (c_X11_thinned a0 s1.2.1 s1.2.2) B_X11_thinned gw_659 rfl rfl rfl d_X11_thinsBelow_12 (gm_kI (fun x3 m2 => ?_))
    refine gm_iload_n d_X11_thinsBelow_15 rfl 1 rfl ?_
    refine gm_join (S := Int32) (pj := 22) (kj := 0) (nj := 0) (fun s4 => m2) (fun s4 => [(0, .int a0), (1, .int a1), (2, .int s4), (3, .int s1.2.1)]) (fun s4 => []) (fun s4 => ?_) (fun j5 hj5 => ?_)
    ·
      refine gm_iinc (v := s1.2.1 + (1 : Int32)) (L' := [(3, .int (s1.2.1 + (1 : Int32))), (0, .int a0), (1, .int a1), (2, .int s4)]) d_X11_thinsBelow_22 3 rfl rfl (Nat.le_of_ble_eq_true rfl) rfl ?_
      refine gm_goto (tgt := 4) d_X11_thinsBelow_25 (by decide) ?_
      refine gm_sub (L' := [(0, .int a0), (1, .int a1), (2, .int s4), (3, .int (s1.2.1 + (1 : Int32)))]) [1, 2, 3, 0] rfl ?_
      exact gm_back (fun h => h)
    ·
      refine gm_icmp_ge (tgt := 22) d_X11_thinsBelow_16 (by decide) (fun h16 => ?_) (fun h16 => ?_)
      ·
        exact hj5 s1.1
      ·
        refine gm_iinc (v := s1.1 + (1 : Int32)) (L' := [(2, .int (s1.1 + (1 : Int32))), (0, .int a0), (1, .int a1), (3, .int s1.2.1)]) d_X11_thinsBelow_19 2 rfl rfl (Nat.le_of_ble_eq_true rfl) rfl ?_
        refine gm_sub (L' := [(0, .int a0), (1, .int a1), (2, .int (s1.1 + (1 : Int32))), (3, .int s1.2.1)]) [1, 2, 0, 3] rfl ?_
        exact hj5 (s1.1 + (1 : Int32))
end
