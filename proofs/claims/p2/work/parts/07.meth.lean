theorem d_X11_first_0 : decode prog_1_method_19_code 0 = .ok (.bipush (-5), 2) := by decide +kernel
theorem d_X11_first_2 : decode prog_1_method_19_code 2 = .ok (.istore_n 1, 1) := by decide +kernel
theorem d_X11_first_3 : decode prog_1_method_19_code 3 = .ok (.iconst (-1), 1) := by decide +kernel
theorem d_X11_first_4 : decode prog_1_method_19_code 4 = .ok (.istore_n 2, 1) := by decide +kernel
theorem d_X11_first_5 : decode prog_1_method_19_code 5 = .ok (.iconst 0, 1) := by decide +kernel
theorem d_X11_first_6 : decode prog_1_method_19_code 6 = .ok (.istore_n 3, 1) := by decide +kernel
theorem d_X11_first_7 : decode prog_1_method_19_code 7 = .ok (.iload_n 3, 1) := by decide +kernel
theorem d_X11_first_8 : decode prog_1_method_19_code 8 = .ok (.aload_n 0, 1) := by decide +kernel
theorem d_X11_first_9 : decode prog_1_method_19_code 9 = .ok (.getfield 60, 3) := by decide +kernel
theorem d_X11_first_12 : decode prog_1_method_19_code 12 = .ok (.getfield 101, 3) := by decide +kernel
theorem d_X11_first_15 : decode prog_1_method_19_code 15 = .ok (.if_icmp .ge 27, 3) := by decide +kernel
theorem d_X11_first_18 : decode prog_1_method_19_code 18 = .ok (.aload_n 0, 1) := by decide +kernel
theorem d_X11_first_19 : decode prog_1_method_19_code 19 = .ok (.iload_n 3, 1) := by decide +kernel
theorem d_X11_first_20 : decode prog_1_method_19_code 20 = .ok (.invokevirtual 158, 3) := by decide +kernel
theorem d_X11_first_23 : decode prog_1_method_19_code 23 = .ok (.istore 4, 2) := by decide +kernel
theorem d_X11_first_25 : decode prog_1_method_19_code 25 = .ok (.iload 4, 2) := by decide +kernel
theorem d_X11_first_27 : decode prog_1_method_19_code 27 = .ok (.iload_n 2, 1) := by decide +kernel
theorem d_X11_first_28 : decode prog_1_method_19_code 28 = .ok (.if_icmp .le 8, 3) := by decide +kernel
theorem d_X11_first_31 : decode prog_1_method_19_code 31 = .ok (.iload 4, 2) := by decide +kernel
theorem d_X11_first_33 : decode prog_1_method_19_code 33 = .ok (.istore_n 2, 1) := by decide +kernel
theorem d_X11_first_34 : decode prog_1_method_19_code 34 = .ok (.iload_n 3, 1) := by decide +kernel
theorem d_X11_first_35 : decode prog_1_method_19_code 35 = .ok (.istore_n 1, 1) := by decide +kernel
theorem d_X11_first_36 : decode prog_1_method_19_code 36 = .ok (.iinc 3 1, 3) := by decide +kernel
theorem d_X11_first_39 : decode prog_1_method_19_code 39 = .ok (.goto (-32), 3) := by decide +kernel
theorem d_X11_first_42 : decode prog_1_method_19_code 42 = .ok (.iload_n 1, 1) := by decide +kernel
theorem d_X11_first_43 : decode prog_1_method_19_code 43 = .ok (.ireturn, 1) := by decide +kernel
def f_X11_first (a0 : Nat) (μ : gm_M) : Option (Option Value × gm_M) := gm_loop (fun (s1 : Int32 × Int32 × Int32 × gm_M) => gm_gR s1.2.2.2 [16] a0 1 (fun v2 => gm_gI s1.2.2.2 [13] v2 1 (fun v3 => if v3 ≤ s1.2.2.1 then some (Sum.inr (some (.int s1.1), s1.2.2.2)) else if gm_tag s1.2.2.2 a0 = 16 then gm_bI (f_X11_holdsNow a0 s1.2.2.1 s1.2.2.2) (fun x5 m4 => gm_j (fun (s6 : Int32 × Int32) => some (Sum.inl (s6.1, s6.2, (s1.2.2.1 + (1 : Int32)), m4))) (fun j7 => if x5 ≤ s1.2.1 then j7 (s1.1, s1.2.1) else j7 (s1.2.2.1, x5))) else none))) 5000 ((-5 : Int32), (-1 : Int32), (0 : Int32), μ)
set_option maxHeartbeats 4000000 in
theorem c_X11_first (a0 : Nat) (μ : gm_M) : gm_Call ({ cls := "GumBubble", name := "first", desc := "()I" } : Jvm.MethodName) prog_1_method_19_code 5 (some .int) 5 0 0 [.ref a0] μ (f_X11_first a0 μ) := by
  refine gm_start PN_11 (Nat.le_of_ble_eq_true rfl) (fun res μe => ?_)
  unfold f_X11_first
  show gm_A "GumBubble" (gm_nm "first") _ _ _ _ _ _ _ _ _ 0 [(0, .ref a0)] [] _ _
  refine gm_bipush (v := -5) d_X11_first_0 (by decide) ?_
  refine gm_istore_n (L' := [(1, .int (-5 : Int32)), (0, .ref a0)]) d_X11_first_2 rfl (Nat.le_of_ble_eq_true rfl) rfl ?_
  refine gm_iconst (v := -1) d_X11_first_3 (by decide) ?_
  refine gm_istore_n (L' := [(2, .int (-1 : Int32)), (1, .int (-5 : Int32)), (0, .ref a0)]) d_X11_first_4 rfl (Nat.le_of_ble_eq_true rfl) rfl ?_
  refine gm_iconst (v := 0) d_X11_first_5 (by decide) ?_
  refine gm_istore_n (L' := [(3, .int (0 : Int32)), (2, .int (-1 : Int32)), (1, .int (-5 : Int32)), (0, .ref a0)]) d_X11_first_6 rfl (Nat.le_of_ble_eq_true rfl) rfl ?_
  refine gm_sub (L' := [(0, .ref a0), (1, .int (-5 : Int32)), (2, .int (-1 : Int32)), (3, .int (0 : Int32))]) [3, 2, 1, 0] rfl ?_
  refine gm_lp (S := Int32 × Int32 × Int32 × gm_M) (fun _ => 0) (fun _ => 0) (fun s1 => s1.2.2.2) (fun s1 => [(0, .ref a0), (1, .int s1.1), (2, .int s1.2.1), (3, .int s1.2.2.1)]) (fun _ => []) (fun s1 => ?_) 5000 ((-5 : Int32), (-1 : Int32), (0 : Int32), μ)
  refine gm_iload_n d_X11_first_7 rfl 3 rfl ?_
  refine gm_aload_n d_X11_first_8 rfl 0 rfl ?_
  refine gm_getR F_11_now gw_262 d_X11_first_9 (fun v2 _ => ?_)
  refine gm_getI F_8_size gw_221 d_X11_first_12 (fun v3 _ => ?_)
  refine gm_icmp_ge (tgt := 42) d_X11_first_15 (by decide) (fun h15 => ?_) (fun h15 => ?_)
  ·
    refine gm_iload_n d_X11_first_42 rfl 1 rfl ?_
    exact gm_iret rfl d_X11_first_43 (Nat.le_of_ble_eq_true rfl) (Nat.le_of_ble_eq_true rfl) (fun h => h)
  ·
    refine gm_aload_n d_X11_first_18 rfl 0 rfl ?_
    refine gm_iload_n d_X11_first_19 rfl 3 rfl ?_
    refine gm_grd (fun g20 => ?_)
    refine gm_callV (k0 := 11) [.int s1.2.2.1] (c_X11_holdsNow a0 s1.2.2.1 s1.2.2.2) g20 rfl B_X11_holdsNow gw_541 gs_13 rfl rfl rfl d_X11_first_20 (gm_kI (fun x5 m4 => ?_))
    refine gm_istore (L' := [(4, .int x5), (0, .ref a0), (1, .int s1.1), (2, .int s1.2.1), (3, .int s1.2.2.1)]) d_X11_first_23 (Nat.le_of_ble_eq_true rfl) rfl ?_
    refine gm_iload d_X11_first_25 0 rfl ?_
    refine gm_iload_n d_X11_first_27 rfl 3 rfl ?_
    refine gm_join (S := Int32 × Int32) (pj := 36) (kj := 0) (nj := 0) (fun s6 => m4) (fun s6 => [(0, .ref a0), (1, .int s6.1), (2, .int s6.2), (3, .int s1.2.2.1), (4, .int x5)]) (fun s6 => []) (fun s6 => ?_) (fun j7 hj7 => ?_)
    ·
      refine gm_iinc (v := s1.2.2.1 + (1 : Int32)) (L' := [(3, .int (s1.2.2.1 + (1 : Int32))), (0, .ref a0), (1, .int s6.1), (2, .int s6.2), (4, .int x5)]) d_X11_first_36 3 rfl rfl (Nat.le_of_ble_eq_true rfl) rfl ?_
      refine gm_goto (tgt := 7) d_X11_first_39 (by decide) ?_
      refine gm_sub (L' := [(0, .ref a0), (1, .int s6.1), (2, .int s6.2), (3, .int (s1.2.2.1 + (1 : Int32)))]) [1, 2, 3, 0] rfl ?_
      exact gm_back (fun h => h)
    ·
      refine gm_icmp_le (tgt := 36) d_X11_first_28 (by decide) (fun h28 => ?_) (fun h28 => ?_)
      ·
        refine gm_sub (L' := [(0, .ref a0), (1, .int s1.1), (2, .int s1.2.1), (3, .int s1.2.2.1), (4, .int x5)]) [1, 2, 3, 4, 0] rfl ?_
        exact hj7 (s1.1, s1.2.1)
      ·
        refine gm_iload d_X11_first_31 0 rfl ?_
        refine gm_istore_n (L' := [(2, .int x5), (4, .int x5), (0, .ref a0), (1, .int s1.1), (3, .int s1.2.2.1)]) d_X11_first_33 rfl (Nat.le_of_ble_eq_true rfl) rfl ?_
        refine gm_iload_n d_X11_first_34 rfl 4 rfl ?_
        refine gm_istore_n (L' := [(1, .int s1.2.2.1), (2, .int x5), (4, .int x5), (0, .ref a0), (3, .int s1.2.2.1)]) d_X11_first_35 rfl (Nat.le_of_ble_eq_true rfl) rfl ?_
        refine gm_sub (L' := [(0, .ref a0), (1, .int s1.2.2.1), (2, .int x5), (3, .int s1.2.2.1), (4, .int x5)]) [3, 0, 1, 4, 2] rfl ?_
        exact hj7 (s1.2.2.1, x5)
theorem d_X11_had_0 : decode prog_1_method_27_code 0 = .ok (.aload_n 0, 1) := by decide +kernel
theorem d_X11_had_1 : decode prog_1_method_27_code 1 = .ok (.iload_n 1, 1) := by decide +kernel
theorem d_X11_had_2 : decode prog_1_method_27_code 2 = .ok (.invokevirtual 115, 3) := by decide +kernel
theorem d_X11_had_5 : decode prog_1_method_27_code 5 = .ok (.ifCond .eq 5, 3) := by decide +kernel
theorem d_X11_had_8 : decode prog_1_method_27_code 8 = .ok (.iconst (-1), 1) := by decide +kernel
theorem d_X11_had_9 : decode prog_1_method_27_code 9 = .ok (.ireturn, 1) := by decide +kernel
theorem d_X11_had_10 : decode prog_1_method_27_code 10 = .ok (.iconst 0, 1) := by decide +kernel
theorem d_X11_had_11 : decode prog_1_method_27_code 11 = .ok (.istore_n 2, 1) := by decide +kernel
theorem d_X11_had_12 : decode prog_1_method_27_code 12 = .ok (.iconst 0, 1) := by decide +kernel
theorem d_X11_had_13 : decode prog_1_method_27_code 13 = .ok (.istore_n 3, 1) := by decide +kernel
theorem d_X11_had_14 : decode prog_1_method_27_code 14 = .ok (.iload_n 3, 1) := by decide +kernel
theorem d_X11_had_15 : decode prog_1_method_27_code 15 = .ok (.bipush 6, 2) := by decide +kernel
theorem d_X11_had_17 : decode prog_1_method_27_code 17 = .ok (.if_icmp .gt 36, 3) := by decide +kernel
theorem d_X11_had_20 : decode prog_1_method_27_code 20 = .ok (.aload_n 0, 1) := by decide +kernel
theorem d_X11_had_21 : decode prog_1_method_27_code 21 = .ok (.iload_n 1, 1) := by decide +kernel
theorem d_X11_had_22 : decode prog_1_method_27_code 22 = .ok (.aload_n 0, 1) := by decide +kernel
theorem d_X11_had_23 : decode prog_1_method_27_code 23 = .ok (.getfield 60, 3) := by decide +kernel
theorem d_X11_had_26 : decode prog_1_method_27_code 26 = .ok (.getfield 104, 3) := by decide +kernel
theorem d_X11_had_29 : decode prog_1_method_27_code 29 = .ok (.iload_n 1, 1) := by decide +kernel
theorem d_X11_had_30 : decode prog_1_method_27_code 30 = .ok (.aaload, 1) := by decide +kernel
theorem d_X11_had_31 : decode prog_1_method_27_code 31 = .ok (.getfield 126, 3) := by decide +kernel
theorem d_X11_had_34 : decode prog_1_method_27_code 34 = .ok (.iload_n 3, 1) := by decide +kernel
theorem d_X11_had_35 : decode prog_1_method_27_code 35 = .ok (.invokevirtual 247, 3) := by decide +kernel
theorem d_X11_had_38 : decode prog_1_method_27_code 38 = .ok (.ifCond .eq 9, 3) := by decide +kernel
theorem d_X11_had_41 : decode prog_1_method_27_code 41 = .ok (.iload_n 2, 1) := by decide +kernel
theorem d_X11_had_42 : decode prog_1_method_27_code 42 = .ok (.iconst 1, 1) := by decide +kernel
theorem d_X11_had_43 : decode prog_1_method_27_code 43 = .ok (.iload_n 3, 1) := by decide +kernel
theorem d_X11_had_44 : decode prog_1_method_27_code 44 = .ok (.ishl, 1) := by decide +kernel
theorem d_X11_had_45 : decode prog_1_method_27_code 45 = .ok (.ior, 1) := by decide +kernel
theorem d_X11_had_46 : decode prog_1_method_27_code 46 = .ok (.istore_n 2, 1) := by decide +kernel
theorem d_X11_had_47 : decode prog_1_method_27_code 47 = .ok (.iinc 3 1, 3) := by decide +kernel
theorem d_X11_had_50 : decode prog_1_method_27_code 50 = .ok (.goto (-36), 3) := by decide +kernel
theorem d_X11_had_53 : decode prog_1_method_27_code 53 = .ok (.iload_n 2, 1) := by decide +kernel
theorem d_X11_had_54 : decode prog_1_method_27_code 54 = .ok (.ireturn, 1) := by decide +kernel
def f_X11_had (a0 : Nat) (a1 : Int32) (μ : gm_M) : Option (Option Value × gm_M) := if gm_tag μ a0 = 16 then gm_bI (f_X11_isNobody a0 a1 μ) (fun x2 m1 => if x2 = 0 then gm_loop (fun (s3 : Int32 × Int32 × gm_M) => if (6 : Int32) < s3.2.1 then some (Sum.inr (some (.int s3.1), s3.2.2)) else gm_gR s3.2.2 [16] a0 1 (fun v4 => gm_gR s3.2.2 [13] v4 2 (fun v5 => gm_aR s3.2.2 4 v5 a1 (fun v6 => gm_gI s3.2.2 [7] v6 2 (fun v7 => if gm_tag s3.2.2 a0 = 16 then gm_bI (f_X11_isAllSeen a0 a1 v7 s3.2.1 s3.2.2) (fun x9 m8 => gm_j (fun (s10 : Int32) => some (Sum.inl (s10, (s3.2.1 + (1 : Int32)), m8))) (fun j11 => if x9 = 0 then j11 s3.1 else j11 (s3.1 ||| ((1 : Int32) <<< (s3.2.1 &&& 31))))) else none))))) 5000 ((0 : Int32), (0 : Int32), m1) else some (some (.int (-1 : Int32)), m1)) else none
set_option maxHeartbeats 4000000 in
theorem c_X11_had (a0 : Nat) (a1 : Int32) (μ : gm_M) : gm_Call ({ cls := "GumBubble", name := "had", desc := "(I)I" } : Jvm.MethodName) prog_1_method_27_code 4 (some .int) 6 0 0 [.ref a0, .int a1] μ (f_X11_had a0 a1 μ) := by
  refine gm_start PN_11 (Nat.le_of_ble_eq_true rfl) (fun res μe => ?_)
  unfold f_X11_had
  show gm_A "GumBubble" (gm_nm "had") _ _ _ _ _ _ _ _ _ 0 [(0, .ref a0), (1, .int a1)] [] _ _
  refine gm_aload_n d_X11_had_0 rfl 0 rfl ?_
  refine gm_iload_n d_X11_had_1 rfl 1 rfl ?_
  refine gm_grd (fun g2 => ?_)
  refine gm_callV (k0 := 11) [.int a1] (c_X11_isNobody a0 a1 μ) g2 rfl B_X11_isNobody gw_478 gs_11 rfl rfl rfl d_X11_had_2 (gm_kI (fun x2 m1 => ?_))
  refine gm_if_eq (tgt := 10) d_X11_had_5 (by decide) (fun h5 => ?_) (fun h5 => ?_)
  ·
    refine gm_iconst (v := 0) d_X11_had_10 (by decide) ?_
    refine gm_istore_n (L' := [(2, .int (0 : Int32)), (0, .ref a0), (1, .int a1)]) d_X11_had_11 rfl (Nat.le_of_ble_eq_true rfl) rfl ?_
    refine gm_iconst (v := 0) d_X11_had_12 (by decide) ?_
    refine gm_istore_n (L' := [(3, .int (0 : Int32)), (2, .int (0 : Int32)), (0, .ref a0), (1, .int a1)]) d_X11_had_13 rfl (Nat.le_of_ble_eq_true rfl) rfl ?_
    refine gm_sub (L' := [(0, .ref a0), (1, .int a1), (2, .int (0 : Int32)), (3, .int (0 : Int32))]) [2, 3, 1, 0] rfl ?_
    refine gm_lp (S := Int32 × Int32 × gm_M) (fun _ => 0) (fun _ => 0) (fun s3 => s3.2.2) (fun s3 => [(0, .ref a0), (1, .int a1), (2, .int s3.1), (3, .int s3.2.1)]) (fun _ => []) (fun s3 => ?_) 5000 ((0 : Int32), (0 : Int32), m1)
    refine gm_iload_n d_X11_had_14 rfl 3 rfl ?_
    refine gm_bipush (v := 6) d_X11_had_15 (by decide) ?_
    refine gm_icmp_gt (tgt := 53) d_X11_had_17 (by decide) (fun h17 => ?_) (fun h17 => ?_)
    ·
      refine gm_iload_n d_X11_had_53 rfl 2 rfl ?_
      exact gm_iret rfl d_X11_had_54 (Nat.le_of_ble_eq_true rfl) (Nat.le_of_ble_eq_true rfl) (fun h => h)
    ·
      refine gm_aload_n d_X11_had_20 rfl 0 rfl ?_
      refine gm_iload_n d_X11_had_21 rfl 1 rfl ?_
      refine gm_aload_n d_X11_had_22 rfl 0 rfl ?_
      refine gm_getR F_11_now gw_262 d_X11_had_23 (fun v4 _ => ?_)
      refine gm_getR F_8_children gw_223 d_X11_had_26 (fun v5 _ => ?_)
      refine gm_iload_n d_X11_had_29 rfl 1 rfl ?_
      refine gm_aald (Or.inr rfl) d_X11_had_30 (fun v6 _ => ?_)
      refine gm_getI F_2_v gw_177 d_X11_had_31 (fun v7 _ => ?_)
      refine gm_iload_n d_X11_had_34 rfl 3 rfl ?_
      refine gm_grd (fun g35 => ?_)
      refine gm_callV (k0 := 11) [.int a1, .int v7, .int s3.2.1] (c_X11_isAllSeen a0 a1 v7 s3.2.1 s3.2.2) g35 rfl B_X11_isAllSeen gw_730 gs_22 rfl rfl rfl d_X11_had_35 (gm_kI (fun x9 m8 => ?_))
      refine gm_join (S := Int32) (pj := 47) (kj := 0) (nj := 0) (fun s10 => m8) (fun s10 => [(0, .ref a0), (1, .int a1), (2, .int s10), (3, .int s3.2.1)]) (fun s10 => []) (fun s10 => ?_) (fun j11 hj11 => ?_)
      ·
        refine gm_iinc (v := s3.2.1 + (1 : Int32)) (L' := [(3, .int (s3.2.1 + (1 : Int32))), (0, .ref a0), (1, .int a1), (2, .int s10)]) d_X11_had_47 3 rfl rfl (Nat.le_of_ble_eq_true rfl) rfl ?_
        refine gm_goto (tgt := 14) d_X11_had_50 (by decide) ?_
        refine gm_sub (L' := [(0, .ref a0), (1, .int a1), (2, .int s10), (3, .int (s3.2.1 + (1 : Int32)))]) [1, 2, 3, 0] rfl ?_
        exact gm_back (fun h => h)
      ·
        refine gm_if_eq (tgt := 47) d_X11_had_38 (by decide) (fun h38 => ?_) (fun h38 => ?_)
        ·
          exact hj11 s3.1
        ·
          refine gm_iload_n d_X11_had_41 rfl 2 rfl ?_
          refine gm_iconst (v := 1) d_X11_had_42 (by decide) ?_
          refine gm_iload_n d_X11_had_43 rfl 3 rfl ?_
          refine gm_ishl d_X11_had_44 ?_
          refine gm_ior d_X11_had_45 ?_
          refine gm_istore_n (L' := [(2, .int (s3.1 ||| ((1 : Int32) <<< (s3.2.1 &&& 31)))), (0, .ref a0), (1, .int a1), (3, .int s3.2.1)]) d_X11_had_46 rfl (Nat.le_of_ble_eq_true rfl) rfl ?_
          refine gm_sub (L' := [(0, .ref a0), (1, .int a1), (2, .int (s3.1 ||| ((1 : Int32) <<< (s3.2.1 &&& 31)))), (3, .int s3.2.1)]) [1, 2, 0, 3] rfl ?_
          exact hj11 (s3.1 ||| ((1 : Int32) <<< (s3.2.1 &&& 31)))
  ·
    refine gm_iconst (v := -1) d_X11_had_8 (by decide) ?_
    exact gm_iret rfl d_X11_had_9 (Nat.le_of_ble_eq_true rfl) (Nat.le_of_ble_eq_true rfl) (fun h => h)
theorem d_X11_holdsBehind_0 : decode prog_1_method_43_code 0 = .ok (.aload_n 0, 1) := by decide +kernel
theorem d_X11_holdsBehind_1 : decode prog_1_method_43_code 1 = .ok (.getfield 72, 3) := by decide +kernel
theorem d_X11_holdsBehind_4 : decode prog_1_method_43_code 4 = .ok (.aload_n 0, 1) := by decide +kernel
theorem d_X11_holdsBehind_5 : decode prog_1_method_43_code 5 = .ok (.getfield 60, 3) := by decide +kernel
theorem d_X11_holdsBehind_8 : decode prog_1_method_43_code 8 = .ok (.getfield 104, 3) := by decide +kernel
theorem d_X11_holdsBehind_11 : decode prog_1_method_43_code 11 = .ok (.iload_n 1, 1) := by decide +kernel
theorem d_X11_holdsBehind_12 : decode prog_1_method_43_code 12 = .ok (.aaload, 1) := by decide +kernel
theorem d_X11_holdsBehind_13 : decode prog_1_method_43_code 13 = .ok (.invokevirtual 186, 3) := by decide +kernel
theorem d_X11_holdsBehind_16 : decode prog_1_method_43_code 16 = .ok (.aload_n 0, 1) := by decide +kernel
theorem d_X11_holdsBehind_17 : decode prog_1_method_43_code 17 = .ok (.iload_n 2, 1) := by decide +kernel
theorem d_X11_holdsBehind_18 : decode prog_1_method_43_code 18 = .ok (.invokevirtual 289, 3) := by decide +kernel
theorem d_X11_holdsBehind_21 : decode prog_1_method_43_code 21 = .ok (.ireturn, 1) := by decide +kernel
def f_X11_holdsBehind (a0 : Nat) (a1 : Int32) (a2 : Int32) (μ : gm_M) : Option (Option Value × gm_M) := gm_gR μ [16] a0 5 (fun v1 => gm_gR μ [16] a0 1 (fun v2 => gm_gR μ [13] v2 2 (fun v3 => gm_aR μ 4 v3 a1 (fun v4 => if gm_tag μ v1 = 7 then gm_bV (f_X2_copy v1 v4 μ) (fun m5 => if gm_tag m5 a0 = 16 then gm_bI (f_X11_trialBehind a0 a2 m5) (fun x8 m7 => some (some (.int x8), m7)) else none) else none))))
set_option maxHeartbeats 4000000 in
theorem c_X11_holdsBehind (a0 : Nat) (a1 : Int32) (a2 : Int32) (μ : gm_M) : gm_Call ({ cls := "GumBubble", name := "holdsBehind", desc := "(II)I" } : Jvm.MethodName) prog_1_method_43_code 3 (some .int) 5 0 0 [.ref a0, .int a1, .int a2] μ (f_X11_holdsBehind a0 a1 a2 μ) := by
  refine gm_start PN_11 (Nat.le_of_ble_eq_true rfl) (fun res μe => ?_)
  unfold f_X11_holdsBehind
  show gm_A "GumBubble" (gm_nm "holdsBehind") _ _ _ _ _ _ _ _ _ 0 [(0, .ref a0), (1, .int a1), (2, .int a2)] [] _ _
  refine gm_aload_n d_X11_holdsBehind_0 rfl 0 rfl ?_
  refine gm_getR F_11_trial gw_266 d_X11_holdsBehind_1 (fun v1 _ => ?_)
  refine gm_aload_n d_X11_holdsBehind_4 rfl 0 rfl ?_
  refine gm_getR F_11_now gw_262 d_X11_holdsBehind_5 (fun v2 _ => ?_)
  refine gm_getR F_8_children gw_223 d_X11_holdsBehind_8 (fun v3 _ => ?_)
  refine gm_iload_n d_X11_holdsBehind_11 rfl 1 rfl ?_
  refine gm_aald (Or.inr rfl) d_X11_holdsBehind_12 (fun v4 _ => ?_)
  refine gm_grd (fun g13 => ?_)
  refine gm_callV (k0 := 2) [.ref v4] (c_X2_copy v1 v4 μ) g13 rfl B_X2_copy gw_585 gw_587 rfl rfl rfl d_X11_holdsBehind_13 (gm_kV (fun m5 => ?_))
  refine gm_aload_n d_X11_holdsBehind_16 rfl 0 rfl ?_
  refine gm_iload_n d_X11_holdsBehind_17 rfl 2 rfl ?_
  refine gm_grd (fun g18 => ?_)
  refine gm_callV (k0 := 11) [.int a2] (c_X11_trialBehind a0 a2 m5) g18 rfl B_X11_trialBehind gw_592 gs_16 rfl rfl rfl d_X11_holdsBehind_18 (gm_kI (fun x8 m7 => ?_))
  exact gm_iret rfl d_X11_holdsBehind_21 (Nat.le_of_ble_eq_true rfl) (Nat.le_of_ble_eq_true rfl) (fun h => h)
theorem d_X11_holdsWithGumOf_0 : decode prog_1_method_52_code 0 = .ok (.aload_n 0, 1) := by decide +kernel
theorem d_X11_holdsWithGumOf_1 : decode prog_1_method_52_code 1 = .ok (.getfield 72, 3) := by decide +kernel
theorem d_X11_holdsWithGumOf_4 : decode prog_1_method_52_code 4 = .ok (.aload_n 0, 1) := by decide +kernel
theorem d_X11_holdsWithGumOf_5 : decode prog_1_method_52_code 5 = .ok (.getfield 60, 3) := by decide +kernel
theorem d_X11_holdsWithGumOf_8 : decode prog_1_method_52_code 8 = .ok (.getfield 104, 3) := by decide +kernel
theorem d_X11_holdsWithGumOf_11 : decode prog_1_method_52_code 11 = .ok (.iload_n 1, 1) := by decide +kernel
theorem d_X11_holdsWithGumOf_12 : decode prog_1_method_52_code 12 = .ok (.aaload, 1) := by decide +kernel
theorem d_X11_holdsWithGumOf_13 : decode prog_1_method_52_code 13 = .ok (.invokevirtual 186, 3) := by decide +kernel
theorem d_X11_holdsWithGumOf_16 : decode prog_1_method_52_code 16 = .ok (.aload_n 0, 1) := by decide +kernel
theorem d_X11_holdsWithGumOf_17 : decode prog_1_method_52_code 17 = .ok (.getfield 72, 3) := by decide +kernel
theorem d_X11_holdsWithGumOf_20 : decode prog_1_method_52_code 20 = .ok (.aload_n 0, 1) := by decide +kernel
theorem d_X11_holdsWithGumOf_21 : decode prog_1_method_52_code 21 = .ok (.getfield 60, 3) := by decide +kernel
theorem d_X11_holdsWithGumOf_24 : decode prog_1_method_52_code 24 = .ok (.getfield 104, 3) := by decide +kernel
theorem d_X11_holdsWithGumOf_27 : decode prog_1_method_52_code 27 = .ok (.iload_n 2, 1) := by decide +kernel
theorem d_X11_holdsWithGumOf_28 : decode prog_1_method_52_code 28 = .ok (.aaload, 1) := by decide +kernel
theorem d_X11_holdsWithGumOf_29 : decode prog_1_method_52_code 29 = .ok (.getfield 129, 3) := by decide +kernel
theorem d_X11_holdsWithGumOf_32 : decode prog_1_method_52_code 32 = .ok (.putfield 129, 3) := by decide +kernel
theorem d_X11_holdsWithGumOf_35 : decode prog_1_method_52_code 35 = .ok (.aload_n 0, 1) := by decide +kernel
theorem d_X11_holdsWithGumOf_36 : decode prog_1_method_52_code 36 = .ok (.getfield 72, 3) := by decide +kernel
theorem d_X11_holdsWithGumOf_39 : decode prog_1_method_52_code 39 = .ok (.aload_n 0, 1) := by decide +kernel
theorem d_X11_holdsWithGumOf_40 : decode prog_1_method_52_code 40 = .ok (.getfield 60, 3) := by decide +kernel
theorem d_X11_holdsWithGumOf_43 : decode prog_1_method_52_code 43 = .ok (.getfield 104, 3) := by decide +kernel
theorem d_X11_holdsWithGumOf_46 : decode prog_1_method_52_code 46 = .ok (.iload_n 2, 1) := by decide +kernel
theorem d_X11_holdsWithGumOf_47 : decode prog_1_method_52_code 47 = .ok (.aaload, 1) := by decide +kernel
theorem d_X11_holdsWithGumOf_48 : decode prog_1_method_52_code 48 = .ok (.getfield 132, 3) := by decide +kernel
theorem d_X11_holdsWithGumOf_51 : decode prog_1_method_52_code 51 = .ok (.putfield 132, 3) := by decide +kernel
theorem d_X11_holdsWithGumOf_54 : decode prog_1_method_52_code 54 = .ok (.aload_n 0, 1) := by decide +kernel
theorem d_X11_holdsWithGumOf_55 : decode prog_1_method_52_code 55 = .ok (.iconst 0, 1) := by decide +kernel
theorem d_X11_holdsWithGumOf_56 : decode prog_1_method_52_code 56 = .ok (.invokevirtual 289, 3) := by decide +kernel
theorem d_X11_holdsWithGumOf_59 : decode prog_1_method_52_code 59 = .ok (.ireturn, 1) := by decide +kernel
def f_X11_holdsWithGumOf (a0 : Nat) (a1 : Int32) (a2 : Int32) (μ : gm_M) : Option (Option Value × gm_M) := gm_gR μ [16] a0 5 (fun v1 => gm_gR μ [16] a0 1 (fun v2 => gm_gR μ [13] v2 2 (fun v3 => gm_aR μ 4 v3 a1 (fun v4 => if gm_tag μ v1 = 7 then gm_bV (f_X2_copy v1 v4 μ) (fun m5 => gm_gR m5 [16] a0 5 (fun v7 => gm_gR m5 [16] a0 1 (fun v8 => gm_gR m5 [13] v8 2 (fun v9 => gm_aR m5 4 v9 a2 (fun v10 => gm_gI m5 [7] v10 3 (fun v11 => gm_pI m5 [7] v7 3 v11 (fun m12 => gm_gR m12 [16] a0 5 (fun v13 => gm_gR m12 [16] a0 1 (fun v14 => gm_gR m12 [13] v14 2 (fun v15 => gm_aR m12 4 v15 a2 (fun v16 => gm_gI m12 [7] v16 4 (fun v17 => gm_pI m12 [7] v13 4 v17 (fun m18 => if gm_tag m18 a0 = 16 then gm_bI (f_X11_trialBehind a0 (0 : Int32) m18) (fun x20 m19 => some (some (.int x20), m19)) else none))))))))))))) else none))))
set_option maxHeartbeats 4000000 in
theorem c_X11_holdsWithGumOf (a0 : Nat) (a1 : Int32) (a2 : Int32) (μ : gm_M) : gm_Call ({ cls := "GumBubble", name := "holdsWithGumOf", desc := "(II)I" } : Jvm.MethodName) prog_1_method_52_code 3 (some .int) 5 0 0 [.ref a0, .int a1, .int a2] μ (f_X11_holdsWithGumOf a0 a1 a2 μ) := by
  refine gm_start PN_11 (Nat.le_of_ble_eq_true rfl) (fun res μe => ?_)
  unfold f_X11_holdsWithGumOf
  show gm_A "GumBubble" (gm_nm "holdsWithGumOf") _ _ _ _ _ _ _ _ _ 0 [(0, .ref a0), (1, .int a1), (2, .int a2)] [] _ _
  refine gm_aload_n d_X11_holdsWithGumOf_0 rfl 0 rfl ?_
  refine gm_getR F_11_trial gw_266 d_X11_holdsWithGumOf_1 (fun v1 _ => ?_)
  refine gm_aload_n d_X11_holdsWithGumOf_4 rfl 0 rfl ?_
  refine gm_getR F_11_now gw_262 d_X11_holdsWithGumOf_5 (fun v2 _ => ?_)
  refine gm_getR F_8_children gw_223 d_X11_holdsWithGumOf_8 (fun v3 _ => ?_)
  refine gm_iload_n d_X11_holdsWithGumOf_11 rfl 1 rfl ?_
  refine gm_aald (Or.inr rfl) d_X11_holdsWithGumOf_12 (fun v4 _ => ?_)
  refine gm_grd (fun g13 => ?_)
  refine gm_callV (k0 := 2) [.ref v4] (c_X2_copy v1 v4 μ) g13 rfl B_X2_copy gw_585 gw_587 rfl rfl rfl d_X11_holdsWithGumOf_13 (gm_kV (fun m5 => ?_))
  refine gm_aload_n d_X11_holdsWithGumOf_16 rfl 0 rfl ?_
  refine gm_getR F_11_trial gw_266 d_X11_holdsWithGumOf_17 (fun v7 _ => ?_)
  refine gm_aload_n d_X11_holdsWithGumOf_20 rfl 0 rfl ?_
  refine gm_getR F_11_now gw_262 d_X11_holdsWithGumOf_21 (fun v8 _ => ?_)
  refine gm_getR F_8_children gw_223 d_X11_holdsWithGumOf_24 (fun v9 _ => ?_)
  refine gm_iload_n d_X11_holdsWithGumOf_27 rfl 2 rfl ?_
  refine gm_aald (Or.inr rfl) d_X11_holdsWithGumOf_28 (fun v10 _ => ?_)
  refine gm_getI F_2_pieces gw_185 d_X11_holdsWithGumOf_29 (fun v11 _ => ?_)
  refine gm_putI F_2_pieces (Or.inl rfl) gw_185 d_X11_holdsWithGumOf_32 (fun m12 _ => ?_)
  refine gm_aload_n d_X11_holdsWithGumOf_35 rfl 0 rfl ?_
  refine gm_getR F_11_trial gw_266 d_X11_holdsWithGumOf_36 (fun v13 _ => ?_)
  refine gm_aload_n d_X11_holdsWithGumOf_39 rfl 0 rfl ?_
  refine gm_getR F_11_now gw_262 d_X11_holdsWithGumOf_40 (fun v14 _ => ?_)
  refine gm_getR F_8_children gw_223 d_X11_holdsWithGumOf_43 (fun v15 _ => ?_)
  refine gm_iload_n d_X11_holdsWithGumOf_46 rfl 2 rfl ?_
  refine gm_aald (Or.inr rfl) d_X11_holdsWithGumOf_47 (fun v16 _ => ?_)
  refine gm_getI F_2_sugar gw_188 d_X11_holdsWithGumOf_48 (fun v17 _ => ?_)
  refine gm_putI F_2_sugar (Or.inl rfl) gw_188 d_X11_holdsWithGumOf_51 (fun m18 _ => ?_)
  refine gm_aload_n d_X11_holdsWithGumOf_54 rfl 0 rfl ?_
  refine gm_iconst (v := 0) d_X11_holdsWithGumOf_55 (by decide) ?_
  refine gm_grd (fun g56 => ?_)
  refine gm_callV (k0 := 11) [.int (0 : Int32)] (c_X11_trialBehind a0 (0 : Int32) m18) g56 rfl B_X11_trialBehind gw_592 gs_16 rfl rfl rfl d_X11_holdsWithGumOf_56 (gm_kI (fun x20 m19 => ?_))
  exact gm_iret rfl d_X11_holdsWithGumOf_59 (Nat.le_of_ble_eq_true rfl) (Nat.le_of_ble_eq_true rfl) (fun h => h)
theorem d_X7_copy_0 : decode prog_9_method_7_code 0 = .ok (.aload_n 1, 1) := by decide +kernel
theorem d_X7_copy_1 : decode prog_9_method_7_code 1 = .ok (.getfield 19, 3) := by decide +kernel
theorem d_X7_copy_4 : decode prog_9_method_7_code 4 = .ok (.iconst 0, 1) := by decide +kernel
theorem d_X7_copy_5 : decode prog_9_method_7_code 5 = .ok (.aload_n 0, 1) := by decide +kernel
theorem d_X7_copy_6 : decode prog_9_method_7_code 6 = .ok (.getfield 19, 3) := by decide +kernel
theorem d_X7_copy_9 : decode prog_9_method_7_code 9 = .ok (.iconst 0, 1) := by decide +kernel
theorem d_X7_copy_10 : decode prog_9_method_7_code 10 = .ok (.aload_n 0, 1) := by decide +kernel
theorem d_X7_copy_11 : decode prog_9_method_7_code 11 = .ok (.getfield 19, 3) := by decide +kernel
theorem d_X7_copy_14 : decode prog_9_method_7_code 14 = .ok (.arraylength, 1) := by decide +kernel
theorem d_X7_copy_15 : decode prog_9_method_7_code 15 = .ok (.aload_n 1, 1) := by decide +kernel
theorem d_X7_copy_16 : decode prog_9_method_7_code 16 = .ok (.getfield 19, 3) := by decide +kernel
theorem d_X7_copy_19 : decode prog_9_method_7_code 19 = .ok (.arraylength, 1) := by decide +kernel
theorem d_X7_copy_20 : decode prog_9_method_7_code 20 = .ok (.invokestatic 30, 3) := by decide +kernel
theorem d_X7_copy_23 : decode prog_9_method_7_code 23 = .ok (.invokestatic 33, 3) := by decide +kernel
theorem d_X7_copy_26 : decode prog_9_method_7_code 26 = .ok (.aload_n 0, 1) := by decide +kernel
theorem d_X7_copy_27 : decode prog_9_method_7_code 27 = .ok (.aload_n 1, 1) := by decide +kernel
theorem d_X7_copy_28 : decode prog_9_method_7_code 28 = .ok (.getfield 23, 3) := by decide +kernel
theorem d_X7_copy_31 : decode prog_9_method_7_code 31 = .ok (.putfield 23, 3) := by decide +kernel
theorem d_X7_copy_34 : decode prog_9_method_7_code 34 = .ok (.return_, 1) := by decide +kernel
def f_X7_copy (a0 : Nat) (a1 : Nat) (μ : gm_M) : Option (Option Value × gm_M) := gm_gR μ [12] a1 1 (fun v1 => gm_gR μ [12] a0 1 (fun v2 => gm_gR μ [12] a0 1 (fun v3 => gm_al μ 1 v3 (fun v4 => gm_gR μ [12] a1 1 (fun v5 => gm_al μ 1 v5 (fun v6 => gm_cp μ v1 (0 : Int32) v2 (0 : Int32) (if v6 < v4 then v6 else v4) (fun m8 => gm_gI m8 [12] a1 2 (fun v9 => gm_pI m8 [12] a0 2 v9 (fun m10 => some (none, m10))))))))))
set_option maxHeartbeats 4000000 in
theorem c_X7_copy (a0 : Nat) (a1 : Nat) (μ : gm_M) : gm_Call ({ cls := "GumBubble$Rows", name := "copy", desc := "(LGumBubble$Rows;)V" } : Jvm.MethodName) prog_9_method_7_code 2 none 1 0 0 [.ref a0, .ref a1] μ (f_X7_copy a0 a1 μ) := by
  refine gm_start PN_7 (Nat.le_of_ble_eq_true rfl) (fun res μe => ?_)
  unfold f_X7_copy
  show gm_A "GumBubble$Rows" (gm_nm "copy") _ _ _ _ _ _ _ _ _ 0 [(0, .ref a0), (1, .ref a1)] [] _ _
  refine gm_aload_n d_X7_copy_0 rfl 1 rfl ?_
  refine gm_getR F_7_cells gw_41 d_X7_copy_1 (fun v1 _ => ?_)
  refine gm_iconst (v := 0) d_X7_copy_4 (by decide) ?_
  refine gm_aload_n d_X7_copy_5 rfl 0 rfl ?_
  refine gm_getR F_7_cells gw_41 d_X7_copy_6 (fun v2 _ => ?_)
  refine gm_iconst (v := 0) d_X7_copy_9 (by decide) ?_
  refine gm_aload_n d_X7_copy_10 rfl 0 rfl ?_
  refine gm_getR F_7_cells gw_41 d_X7_copy_11 (fun v3 _ => ?_)
  refine gm_alen (Or.inl rfl) d_X7_copy_14 (fun v4 _ => ?_)
  refine gm_aload_n d_X7_copy_15 rfl 1 rfl ?_
  refine gm_getR F_7_cells gw_41 d_X7_copy_16 (fun v5 _ => ?_)
  refine gm_alen (Or.inl rfl) d_X7_copy_19 (fun v6 _ => ?_)
  refine gm_min gw_874 gw_310 gw_3 (show _ from gw_311) (Nat.le_of_ble_eq_true rfl) (Nat.le_of_ble_eq_true rfl) (Nat.le_of_ble_eq_true rfl) (Nat.le_of_ble_eq_true rfl) rfl d_X7_copy_20 ?_
  refine gm_copy gw_875 gw_591 gw_590 gw_20 (Nat.le_of_ble_eq_true rfl) (Nat.le_of_ble_eq_true rfl) rfl d_X7_copy_23 (fun m8 _ => ?_)
  refine gm_aload_n d_X7_copy_26 rfl 0 rfl ?_
  refine gm_aload_n d_X7_copy_27 rfl 1 rfl ?_
  refine gm_getI F_7_count gw_42 d_X7_copy_28 (fun v9 _ => ?_)
  refine gm_putI F_7_count (Or.inl rfl) gw_42 d_X7_copy_31 (fun m10 _ => ?_)
  exact gm_vret rfl d_X7_copy_34 (Nat.le_of_ble_eq_true rfl) (Nat.le_of_ble_eq_true rfl) (fun h => h)
theorem d_X8_copy_0 : decode prog_10_method_2_code 0 = .ok (.aload_n 0, 1) := by decide +kernel
theorem d_X8_copy_1 : decode prog_10_method_2_code 1 = .ok (.aload_n 1, 1) := by decide +kernel
theorem d_X8_copy_2 : decode prog_10_method_2_code 2 = .ok (.getfield 46, 3) := by decide +kernel
theorem d_X8_copy_5 : decode prog_10_method_2_code 5 = .ok (.putfield 46, 3) := by decide +kernel
theorem d_X8_copy_8 : decode prog_10_method_2_code 8 = .ok (.aload_n 0, 1) := by decide +kernel
theorem d_X8_copy_9 : decode prog_10_method_2_code 9 = .ok (.aload_n 1, 1) := by decide +kernel
theorem d_X8_copy_10 : decode prog_10_method_2_code 10 = .ok (.getfield 50, 3) := by decide +kernel
theorem d_X8_copy_13 : decode prog_10_method_2_code 13 = .ok (.putfield 50, 3) := by decide +kernel
theorem d_X8_copy_16 : decode prog_10_method_2_code 16 = .ok (.iconst 0, 1) := by decide +kernel
theorem d_X8_copy_17 : decode prog_10_method_2_code 17 = .ok (.istore_n 2, 1) := by decide +kernel
theorem d_X8_copy_18 : decode prog_10_method_2_code 18 = .ok (.iload_n 2, 1) := by decide +kernel
theorem d_X8_copy_19 : decode prog_10_method_2_code 19 = .ok (.iconst 5, 1) := by decide +kernel
theorem d_X8_copy_20 : decode prog_10_method_2_code 20 = .ok (.if_icmp .ge 24, 3) := by decide +kernel
theorem d_X8_copy_23 : decode prog_10_method_2_code 23 = .ok (.aload_n 0, 1) := by decide +kernel
theorem d_X8_copy_24 : decode prog_10_method_2_code 24 = .ok (.getfield 11, 3) := by decide +kernel
theorem d_X8_copy_27 : decode prog_10_method_2_code 27 = .ok (.iload_n 2, 1) := by decide +kernel
theorem d_X8_copy_28 : decode prog_10_method_2_code 28 = .ok (.aaload, 1) := by decide +kernel
theorem d_X8_copy_29 : decode prog_10_method_2_code 29 = .ok (.aload_n 1, 1) := by decide +kernel
theorem d_X8_copy_30 : decode prog_10_method_2_code 30 = .ok (.getfield 11, 3) := by decide +kernel
theorem d_X8_copy_33 : decode prog_10_method_2_code 33 = .ok (.iload_n 2, 1) := by decide +kernel
theorem d_X8_copy_34 : decode prog_10_method_2_code 34 = .ok (.aaload, 1) := by decide +kernel
theorem d_X8_copy_35 : decode prog_10_method_2_code 35 = .ok (.invokevirtual 53, 3) := by decide +kernel
theorem d_X8_copy_38 : decode prog_10_method_2_code 38 = .ok (.iinc 2 1, 3) := by decide +kernel
theorem d_X8_copy_41 : decode prog_10_method_2_code 41 = .ok (.goto (-23), 3) := by decide +kernel
theorem d_X8_copy_44 : decode prog_10_method_2_code 44 = .ok (.aload_n 0, 1) := by decide +kernel
theorem d_X8_copy_45 : decode prog_10_method_2_code 45 = .ok (.aload_n 1, 1) := by decide +kernel
theorem d_X8_copy_46 : decode prog_10_method_2_code 46 = .ok (.getfield 57, 3) := by decide +kernel
theorem d_X8_copy_49 : decode prog_10_method_2_code 49 = .ok (.putfield 57, 3) := by decide +kernel
theorem d_X8_copy_52 : decode prog_10_method_2_code 52 = .ok (.aload_n 0, 1) := by decide +kernel
theorem d_X8_copy_53 : decode prog_10_method_2_code 53 = .ok (.aload_n 1, 1) := by decide +kernel
theorem d_X8_copy_54 : decode prog_10_method_2_code 54 = .ok (.getfield 24, 3) := by decide +kernel
theorem d_X8_copy_57 : decode prog_10_method_2_code 57 = .ok (.putfield 24, 3) := by decide +kernel
theorem d_X8_copy_60 : decode prog_10_method_2_code 60 = .ok (.aload_n 1, 1) := by decide +kernel
theorem d_X8_copy_61 : decode prog_10_method_2_code 61 = .ok (.getfield 17, 3) := by decide +kernel
theorem d_X8_copy_64 : decode prog_10_method_2_code 64 = .ok (.iconst 0, 1) := by decide +kernel
theorem d_X8_copy_65 : decode prog_10_method_2_code 65 = .ok (.aload_n 0, 1) := by decide +kernel
theorem d_X8_copy_66 : decode prog_10_method_2_code 66 = .ok (.getfield 17, 3) := by decide +kernel
theorem d_X8_copy_69 : decode prog_10_method_2_code 69 = .ok (.iconst 0, 1) := by decide +kernel
theorem d_X8_copy_70 : decode prog_10_method_2_code 70 = .ok (.aload_n 0, 1) := by decide +kernel
theorem d_X8_copy_71 : decode prog_10_method_2_code 71 = .ok (.getfield 17, 3) := by decide +kernel
theorem d_X8_copy_74 : decode prog_10_method_2_code 74 = .ok (.arraylength, 1) := by decide +kernel
theorem d_X8_copy_75 : decode prog_10_method_2_code 75 = .ok (.invokestatic 60, 3) := by decide +kernel
theorem d_X8_copy_78 : decode prog_10_method_2_code 78 = .ok (.aload_n 0, 1) := by decide +kernel
theorem d_X8_copy_79 : decode prog_10_method_2_code 79 = .ok (.aload_n 1, 1) := by decide +kernel
theorem d_X8_copy_80 : decode prog_10_method_2_code 80 = .ok (.getfield 66, 3) := by decide +kernel
theorem d_X8_copy_83 : decode prog_10_method_2_code 83 = .ok (.putfield 66, 3) := by decide +kernel
theorem d_X8_copy_86 : decode prog_10_method_2_code 86 = .ok (.aload_n 0, 1) := by decide +kernel
theorem d_X8_copy_87 : decode prog_10_method_2_code 87 = .ok (.getfield 33, 3) := by decide +kernel
theorem d_X8_copy_90 : decode prog_10_method_2_code 90 = .ok (.aload_n 1, 1) := by decide +kernel
theorem d_X8_copy_91 : decode prog_10_method_2_code 91 = .ok (.getfield 33, 3) := by decide +kernel
theorem d_X8_copy_94 : decode prog_10_method_2_code 94 = .ok (.invokevirtual 69, 3) := by decide +kernel
theorem d_X8_copy_97 : decode prog_10_method_2_code 97 = .ok (.aload_n 0, 1) := by decide +kernel
theorem d_X8_copy_98 : decode prog_10_method_2_code 98 = .ok (.getfield 37, 3) := by decide +kernel
theorem d_X8_copy_101 : decode prog_10_method_2_code 101 = .ok (.aload_n 1, 1) := by decide +kernel
theorem d_X8_copy_102 : decode prog_10_method_2_code 102 = .ok (.getfield 37, 3) := by decide +kernel
theorem d_X8_copy_105 : decode prog_10_method_2_code 105 = .ok (.invokevirtual 69, 3) := by decide +kernel
theorem d_X8_copy_108 : decode prog_10_method_2_code 108 = .ok (.aload_n 0, 1) := by decide +kernel
theorem d_X8_copy_109 : decode prog_10_method_2_code 109 = .ok (.getfield 40, 3) := by decide +kernel
theorem d_X8_copy_112 : decode prog_10_method_2_code 112 = .ok (.aload_n 1, 1) := by decide +kernel
theorem d_X8_copy_113 : decode prog_10_method_2_code 113 = .ok (.getfield 40, 3) := by decide +kernel
theorem d_X8_copy_116 : decode prog_10_method_2_code 116 = .ok (.invokevirtual 69, 3) := by decide +kernel
theorem d_X8_copy_119 : decode prog_10_method_2_code 119 = .ok (.return_, 1) := by decide +kernel
def f_X8_copy (a0 : Nat) (a1 : Nat) (μ : gm_M) : Option (Option Value × gm_M) := gm_gI μ [13] a1 0 (fun v1 => gm_pI μ [13] a0 0 v1 (fun m2 => gm_gI m2 [13] a1 1 (fun v3 => gm_pI m2 [13] a0 1 v3 (fun m4 => gm_loop (fun (s5 : Int32 × gm_M) => if (5 : Int32) ≤ s5.1 then gm_gI s5.2 [13] a1 5 (fun v6 => gm_pI s5.2 [13] a0 5 v6 (fun m7 => gm_gR m7 [13] a1 6 (fun v8 => gm_pR m7 [13] a0 6 v8 (fun m9 => gm_gR m9 [13] a1 3 (fun v10 => gm_gR m9 [13] a0 3 (fun v11 => gm_gR m9 [13] a0 3 (fun v12 => gm_al m9 1 v12 (fun v13 => gm_cp m9 v10 (0 : Int32) v11 (0 : Int32) v13 (fun m14 => gm_gI m14 [13] a1 4 (fun v15 => gm_pI m14 [13] a0 4 v15 (fun m16 => gm_gR m16 [13] a0 7 (fun v17 => gm_gR m16 [13] a1 7 (fun v18 => if gm_tag m16 v17 = 12 then gm_bV (f_X7_copy v17 v18 m16) (fun m19 => gm_gR m19 [13] a0 8 (fun v21 => gm_gR m19 [13] a1 8 (fun v22 => if gm_tag m19 v21 = 12 then gm_bV (f_X7_copy v21 v22 m19) (fun m23 => gm_gR m23 [13] a0 9 (fun v25 => gm_gR m23 [13] a1 9 (fun v26 => if gm_tag m23 v25 = 12 then gm_bV (f_X7_copy v25 v26 m23) (fun m27 => some (Sum.inr (none, m27))) else none))) else none))) else none))))))))))))) else gm_gR s5.2 [13] a0 2 (fun v29 => gm_aR s5.2 4 v29 s5.1 (fun v30 => gm_gR s5.2 [13] a1 2 (fun v31 => gm_aR s5.2 4 v31 s5.1 (fun v32 => if gm_tag s5.2 v30 = 7 then gm_bV (f_X2_copy v30 v32 s5.2) (fun m33 => some (Sum.inl ((s5.1 + (1 : Int32)), m33))) else none))))) 5000 ((0 : Int32), m4)))))
set_option maxHeartbeats 4000000 in
theorem c_X8_copy (a0 : Nat) (a1 : Nat) (μ : gm_M) : gm_Call ({ cls := "GumBubble$Scene", name := "copy", desc := "(LGumBubble$Scene;)V" } : Jvm.MethodName) prog_10_method_2_code 3 none 2 0 0 [.ref a0, .ref a1] μ (f_X8_copy a0 a1 μ) := by
  refine gm_start PN_8 (Nat.le_of_ble_eq_true rfl) (fun res μe => ?_)
  unfold f_X8_copy
  show gm_A "GumBubble$Scene" (gm_nm "copy") _ _ _ _ _ _ _ _ _ 0 [(0, .ref a0), (1, .ref a1)] [] _ _
  refine gm_aload_n d_X8_copy_0 rfl 0 rfl ?_
  refine gm_aload_n d_X8_copy_1 rfl 1 rfl ?_
  refine gm_getI F_8_minute gw_218 d_X8_copy_2 (fun v1 _ => ?_)
  refine gm_putI F_8_minute (Or.inl rfl) gw_218 d_X8_copy_5 (fun m2 _ => ?_)
  refine gm_aload_n d_X8_copy_8 rfl 0 rfl ?_
  refine gm_aload_n d_X8_copy_9 rfl 1 rfl ?_
  refine gm_getI F_8_size gw_220 d_X8_copy_10 (fun v3 _ => ?_)
  refine gm_putI F_8_size (Or.inl rfl) gw_220 d_X8_copy_13 (fun m4 _ => ?_)
  refine gm_iconst (v := 0) d_X8_copy_16 (by decide) ?_
  refine gm_istore_n (L' := [(2, .int (0 : Int32)), (0, .ref a0), (1, .ref a1)]) d_X8_copy_17 rfl (Nat.le_of_ble_eq_true rfl) rfl ?_
  refine gm_sub (L' := [(0, .ref a0), (1, .ref a1), (2, .int (0 : Int32))]) [1, 2, 0] rfl ?_
  refine gm_lp (S := Int32 × gm_M) (fun _ => 0) (fun _ => 0) (fun s5 => s5.2) (fun s5 => [(0, .ref a0), (1, .ref a1), (2, .int s5.1)]) (fun _ => []) (fun s5 => ?_) 5000 ((0 : Int32), m4)
  refine gm_iload_n d_X8_copy_18 rfl 2 rfl ?_
  refine gm_iconst (v := 5) d_X8_copy_19 (by decide) ?_
  refine gm_icmp_ge (tgt := 44) d_X8_copy_20 (by decide) (fun h20 => ?_) (fun h20 => ?_)
  ·
    refine gm_aload_n d_X8_copy_44 rfl 0 rfl ?_
    refine gm_aload_n d_X8_copy_45 rfl 1 rfl ?_
    refine gm_getI F_8_afternoons gw_228 d_X8_copy_46 (fun v6 _ => ?_)
    refine gm_putI F_8_afternoons (Or.inl rfl) gw_228 d_X8_copy_49 (fun m7 _ => ?_)
    refine gm_aload_n d_X8_copy_52 rfl 0 rfl ?_
    refine gm_aload_n d_X8_copy_53 rfl 1 rfl ?_
    refine gm_getR F_8_afternoon gw_230 d_X8_copy_54 (fun v8 _ => ?_)
    refine gm_putR F_8_afternoon (Or.inl rfl) gw_230 d_X8_copy_57 (fun m9 _ => ?_)
    refine gm_aload_n d_X8_copy_60 rfl 1 rfl ?_
    refine gm_getR F_8_tape gw_224 d_X8_copy_61 (fun v10 _ => ?_)
    refine gm_iconst (v := 0) d_X8_copy_64 (by decide) ?_
    refine gm_aload_n d_X8_copy_65 rfl 0 rfl ?_
    refine gm_getR F_8_tape gw_224 d_X8_copy_66 (fun v11 _ => ?_)
    refine gm_iconst (v := 0) d_X8_copy_69 (by decide) ?_
    refine gm_aload_n d_X8_copy_70 rfl 0 rfl ?_
    refine gm_getR F_8_tape gw_224 d_X8_copy_71 (fun v12 _ => ?_)
    refine gm_alen (Or.inl rfl) d_X8_copy_74 (fun v13 _ => ?_)
    refine gm_copy gw_869 gw_591 gw_590 gw_20 (Nat.le_of_ble_eq_true rfl) (Nat.le_of_ble_eq_true rfl) rfl d_X8_copy_75 (fun m14 _ => ?_)
    refine gm_aload_n d_X8_copy_78 rfl 0 rfl ?_
    refine gm_aload_n d_X8_copy_79 rfl 1 rfl ?_
    refine gm_getI F_8_tapeSize gw_227 d_X8_copy_80 (fun v15 _ => ?_)
    refine gm_putI F_8_tapeSize (Or.inl rfl) gw_227 d_X8_copy_83 (fun m16 _ => ?_)
    refine gm_aload_n d_X8_copy_86 rfl 0 rfl ?_
    refine gm_getR F_8_seen gw_232 d_X8_copy_87 (fun v17 _ => ?_)
    refine gm_aload_n d_X8_copy_90 rfl 1 rfl ?_
    refine gm_getR F_8_seen gw_232 d_X8_copy_91 (fun v18 _ => ?_)
    refine gm_grd (fun g94 => ?_)
    refine gm_callV (k0 := 7) [.ref v18] (c_X7_copy v17 v18 m16) g94 rfl B_X7_copy gw_870 gw_872 rfl rfl rfl d_X8_copy_94 (gm_kV (fun m19 => ?_))
    refine gm_aload_n d_X8_copy_97 rfl 0 rfl ?_
    refine gm_getR F_8_plan gw_234 d_X8_copy_98 (fun v21 _ => ?_)
    refine gm_aload_n d_X8_copy_101 rfl 1 rfl ?_
    refine gm_getR F_8_plan gw_234 d_X8_copy_102 (fun v22 _ => ?_)
    refine gm_grd (fun g105 => ?_)
    refine gm_callV (k0 := 7) [.ref v22] (c_X7_copy v21 v22 m19) g105 rfl B_X7_copy gw_870 gw_872 rfl rfl rfl d_X8_copy_105 (gm_kV (fun m23 => ?_))
    refine gm_aload_n d_X8_copy_108 rfl 0 rfl ?_
    refine gm_getR F_8_book gw_236 d_X8_copy_109 (fun v25 _ => ?_)
    refine gm_aload_n d_X8_copy_112 rfl 1 rfl ?_
    refine gm_getR F_8_book gw_236 d_X8_copy_113 (fun v26 _ => ?_)
    refine gm_grd (fun g116 => ?_)
    refine gm_callV (k0 := 7) [.ref v26] (c_X7_copy v25 v26 m23) g116 rfl B_X7_copy gw_870 gw_872 rfl rfl rfl d_X8_copy_116 (gm_kV (fun m27 => ?_))
    exact gm_vret rfl d_X8_copy_119 (Nat.le_of_ble_eq_true rfl) (Nat.le_of_ble_eq_true rfl) (fun h => h)
  ·
    refine gm_aload_n d_X8_copy_23 rfl 0 rfl ?_
    refine gm_getR F_8_children gw_222 d_X8_copy_24 (fun v29 _ => ?_)
    refine gm_iload_n d_X8_copy_27 rfl 2 rfl ?_
    refine gm_aald (Or.inr rfl) d_X8_copy_28 (fun v30 _ => ?_)
    refine gm_aload_n d_X8_copy_29 rfl 1 rfl ?_
    refine gm_getR F_8_children gw_222 d_X8_copy_30 (fun v31 _ => ?_)
    refine gm_iload_n d_X8_copy_33 rfl 2 rfl ?_
    refine gm_aald (Or.inr rfl) d_X8_copy_34 (fun v32 _ => ?_)
    refine gm_grd (fun g35 => ?_)
    refine gm_callV (k0 := 2) [.ref v32] (c_X2_copy v30 v32 s5.2) g35 rfl B_X2_copy gw_868 gw_587 rfl rfl rfl d_X8_copy_35 (gm_kV (fun m33 => ?_))
    refine gm_iinc (v := s5.1 + (1 : Int32)) (L' := [(2, .int (s5.1 + (1 : Int32))), (0, .ref a0), (1, .ref a1)]) d_X8_copy_38 2 rfl rfl (Nat.le_of_ble_eq_true rfl) rfl ?_
    refine gm_goto (tgt := 18) d_X8_copy_41 (by decide) ?_
    refine gm_sub (L' := [(0, .ref a0), (1, .ref a1), (2, .int (s5.1 + (1 : Int32)))]) [1, 2, 0] rfl ?_
    exact gm_back (fun h => h)
theorem d_X11_image_0 : decode prog_1_method_36_code 0 = .ok (.aload_n 0, 1) := by decide +kernel
theorem d_X11_image_1 : decode prog_1_method_36_code 1 = .ok (.getfield 64, 3) := by decide +kernel
theorem d_X11_image_4 : decode prog_1_method_36_code 4 = .ok (.aload_n 0, 1) := by decide +kernel
theorem d_X11_image_5 : decode prog_1_method_36_code 5 = .ok (.getfield 60, 3) := by decide +kernel
theorem d_X11_image_8 : decode prog_1_method_36_code 8 = .ok (.invokevirtual 282, 3) := by decide +kernel
theorem d_X11_image_11 : decode prog_1_method_36_code 11 = .ok (.aload_n 0, 1) := by decide +kernel
theorem d_X11_image_12 : decode prog_1_method_36_code 12 = .ok (.iconst 1, 1) := by decide +kernel
theorem d_X11_image_13 : decode prog_1_method_36_code 13 = .ok (.putfield 285, 3) := by decide +kernel
theorem d_X11_image_16 : decode prog_1_method_36_code 16 = .ok (.aload_n 0, 1) := by decide +kernel
theorem d_X11_image_17 : decode prog_1_method_36_code 17 = .ok (.getfield 60, 3) := by decide +kernel
theorem d_X11_image_20 : decode prog_1_method_36_code 20 = .ok (.getfield 101, 3) := by decide +kernel
theorem d_X11_image_23 : decode prog_1_method_36_code 23 = .ok (.ireturn, 1) := by decide +kernel
def f_X11_image (a0 : Nat) (μ : gm_M) : Option (Option Value × gm_M) := gm_gR μ [16] a0 2 (fun v1 => gm_gR μ [16] a0 1 (fun v2 => if gm_tag μ v1 = 13 then gm_bV (f_X8_copy v1 v2 μ) (fun m3 => gm_pZ m3 [16] a0 3 (1 : Int32) (fun m5 => gm_gR m5 [16] a0 1 (fun v6 => gm_gI m5 [13] v6 1 (fun v7 => some (some (.int v7), m5))))) else none))
set_option maxHeartbeats 4000000 in
theorem c_X11_image (a0 : Nat) (μ : gm_M) : gm_Call ({ cls := "GumBubble", name := "image", desc := "()I" } : Jvm.MethodName) prog_1_method_36_code 1 (some .int) 3 0 0 [.ref a0] μ (f_X11_image a0 μ) := by
  refine gm_start PN_11 (Nat.le_of_ble_eq_true rfl) (fun res μe => ?_)
  unfold f_X11_image
  show gm_A "GumBubble" (gm_nm "image") _ _ _ _ _ _ _ _ _ 0 [(0, .ref a0)] [] _ _
  refine gm_aload_n d_X11_image_0 rfl 0 rfl ?_
  refine gm_getR F_11_kept gw_263 d_X11_image_1 (fun v1 _ => ?_)
  refine gm_aload_n d_X11_image_4 rfl 0 rfl ?_
  refine gm_getR F_11_now gw_262 d_X11_image_5 (fun v2 _ => ?_)
  refine gm_grd (fun g8 => ?_)
  refine gm_callV (k0 := 8) [.ref v2] (c_X8_copy v1 v2 μ) g8 rfl B_X8_copy gw_864 gw_866 rfl rfl rfl d_X11_image_8 (gm_kV (fun m3 => ?_))
  refine gm_aload_n d_X11_image_11 rfl 0 rfl ?_
  refine gm_iconst (v := 1) d_X11_image_12 (by decide) ?_
  refine gm_putZ F_11_hasImage (Or.inl rfl) gw_264 d_X11_image_13 (fun m5 _ => ?_)
  refine gm_aload_n d_X11_image_16 rfl 0 rfl ?_
  refine gm_getR F_11_now gw_262 d_X11_image_17 (fun v6 _ => ?_)
  refine gm_getI F_8_size gw_221 d_X11_image_20 (fun v7 _ => ?_)
  exact gm_iret rfl d_X11_image_23 (Nat.le_of_ble_eq_true rfl) (Nat.le_of_ble_eq_true rfl) (fun h => h)
theorem d_X9_init_0 : decode prog_11_method_1_code 0 = .ok (.aload_n 0, 1) := by decide +kernel
theorem d_X9_init_1 : decode prog_11_method_1_code 1 = .ok (.iload_n 1, 1) := by decide +kernel
theorem d_X9_init_2 : decode prog_11_method_1_code 2 = .ok (.invokespecial 1, 3) := by decide +kernel
theorem d_X9_init_5 : decode prog_11_method_1_code 5 = .ok (.return_, 1) := by decide +kernel
def f_X9_init (a0 : Nat) (a1 : Int32) (μ : gm_M) : Option (Option Value × gm_M) := if gm_tag μ a0 ≠ 0 then gm_bV (f_X5_init a0 a1 μ) (fun m1 => some (none, m1)) else none
set_option maxHeartbeats 4000000 in
theorem c_X9_init (a0 : Nat) (a1 : Int32) (μ : gm_M) : gm_Call ({ cls := "GumBubble$Slow", name := "<init>", desc := "(I)V" } : Jvm.MethodName) prog_11_method_1_code 2 none 2 0 0 [.ref a0, .int a1] μ (f_X9_init a0 a1 μ) := by
  refine gm_start PN_9 (Nat.le_of_ble_eq_true rfl) (fun res μe => ?_)
  unfold f_X9_init
  show gm_A "GumBubble$Slow" (gm_nm "<init>") _ _ _ _ _ _ _ _ _ 0 [(0, .ref a0), (1, .int a1)] [] _ _
  refine gm_aload_n d_X9_init_0 rfl 0 rfl ?_
  refine gm_iload_n d_X9_init_1 rfl 1 rfl ?_
  refine gm_grd (fun g2 => ?_)
  refine gm_callI [.int a1] (c_X5_init a0 a1 μ) g2 rfl B_X5_init gw_76 rfl rfl rfl d_X9_init_2 (gm_kV (fun m1 => ?_))
  exact gm_vret rfl d_X9_init_5 (Nat.le_of_ble_eq_true rfl) (Nat.le_of_ble_eq_true rfl) (fun h => h)
theorem d_X1_init_0 : decode prog_3_method_1_code 0 = .ok (.aload_n 0, 1) := by decide +kernel
theorem d_X1_init_1 : decode prog_3_method_1_code 1 = .ok (.iload_n 1, 1) := by decide +kernel
theorem d_X1_init_2 : decode prog_3_method_1_code 2 = .ok (.invokespecial 1, 3) := by decide +kernel
theorem d_X1_init_5 : decode prog_3_method_1_code 5 = .ok (.return_, 1) := by decide +kernel
def f_X1_init (a0 : Nat) (a1 : Int32) (μ : gm_M) : Option (Option Value × gm_M) := if gm_tag μ a0 ≠ 0 then gm_bV (f_X9_init a0 a1 μ) (fun m1 => some (none, m1)) else none
set_option maxHeartbeats 4000000 in
theorem c_X1_init (a0 : Nat) (a1 : Int32) (μ : gm_M) : gm_Call ({ cls := "GumBubble$Careful", name := "<init>", desc := "(I)V" } : Jvm.MethodName) prog_3_method_1_code 2 none 3 0 0 [.ref a0, .int a1] μ (f_X1_init a0 a1 μ) := by
  refine gm_start PN_1 (Nat.le_of_ble_eq_true rfl) (fun res μe => ?_)
  unfold f_X1_init
  show gm_A "GumBubble$Careful" (gm_nm "<init>") _ _ _ _ _ _ _ _ _ 0 [(0, .ref a0), (1, .int a1)] [] _ _
  refine gm_aload_n d_X1_init_0 rfl 0 rfl ?_
  refine gm_iload_n d_X1_init_1 rfl 1 rfl ?_
  refine gm_grd (fun g2 => ?_)
  refine gm_callI [.int a1] (c_X9_init a0 a1 μ) g2 rfl B_X9_init gw_100 rfl rfl rfl d_X1_init_2 (gm_kV (fun m1 => ?_))
  exact gm_vret rfl d_X1_init_5 (Nat.le_of_ble_eq_true rfl) (Nat.le_of_ble_eq_true rfl) (fun h => h)
theorem d_X2_init_0 : decode prog_4_method_1_code 0 = .ok (.aload_n 0, 1) := by decide +kernel
theorem d_X2_init_1 : decode prog_4_method_1_code 1 = .ok (.invokespecial 3, 3) := by decide +kernel
theorem d_X2_init_4 : decode prog_4_method_1_code 4 = .ok (.aload_n 0, 1) := by decide +kernel
theorem d_X2_init_5 : decode prog_4_method_1_code 5 = .ok (.iconst 4, 1) := by decide +kernel
theorem d_X2_init_6 : decode prog_4_method_1_code 6 = .ok (.newarray .int, 2) := by decide +kernel
theorem d_X2_init_8 : decode prog_4_method_1_code 8 = .ok (.putfield 9, 3) := by decide +kernel
theorem d_X2_init_11 : decode prog_4_method_1_code 11 = .ok (.aload_n 0, 1) := by decide +kernel
theorem d_X2_init_12 : decode prog_4_method_1_code 12 = .ok (.iload_n 1, 1) := by decide +kernel
theorem d_X2_init_13 : decode prog_4_method_1_code 13 = .ok (.putfield 15, 3) := by decide +kernel
theorem d_X2_init_16 : decode prog_4_method_1_code 16 = .ok (.aload_n 0, 1) := by decide +kernel
theorem d_X2_init_17 : decode prog_4_method_1_code 17 = .ok (.aload_n 2, 1) := by decide +kernel
theorem d_X2_init_18 : decode prog_4_method_1_code 18 = .ok (.putfield 19, 3) := by decide +kernel
theorem d_X2_init_21 : decode prog_4_method_1_code 21 = .ok (.return_, 1) := by decide +kernel
def f_X2_init (a0 : Nat) (a1 : Int32) (a2 : Nat) (μ : gm_M) : Option (Option Value × gm_M) := if gm_tag μ a0 ≠ 0 then gm_nA μ 1 (4 : Int32) 4 (fun q2 m3 => gm_pR m3 [7] a0 8 q2 (fun m4 => gm_pI m4 [7] a0 0 a1 (fun m5 => gm_pR m5 [7] a0 1 a2 (fun m6 => some (none, m6))))) else none
set_option maxHeartbeats 4000000 in
theorem c_X2_init (a0 : Nat) (a1 : Int32) (a2 : Nat) (μ : gm_M) : gm_Call ({ cls := "GumBubble$Child", name := "<init>", desc := "(ILGumBubble$Plain;)V" } : Jvm.MethodName) prog_4_method_1_code 3 none 1 1 4 [.ref a0, .int a1, .ref a2] μ (f_X2_init a0 a1 a2 μ) := by
  refine gm_start PN_2 (Nat.le_of_ble_eq_true rfl) (fun res μe => ?_)
  unfold f_X2_init
  show gm_A "GumBubble$Child" (gm_nm "<init>") _ _ _ _ _ _ _ _ _ 0 [(0, .ref a0), (1, .int a1), (2, .ref a2)] [] _ _
  refine gm_aload_n d_X2_init_0 rfl 0 rfl ?_
  refine gm_grd (fun g1 => ?_)
  refine gm_obj g1 gw_165 gw_27 gw_28 (Nat.le_of_ble_eq_true rfl) (Nat.le_of_ble_eq_true rfl) rfl d_X2_init_1 ?_
  refine gm_aload_n d_X2_init_4 rfl 0 rfl ?_
  refine gm_iconst (v := 4) d_X2_init_5 (by decide) ?_
  refine gm_newaI (B := 4) (Nat.le_of_ble_eq_true rfl) gw_51 (Nat.le_of_ble_eq_true rfl) (Nat.le_of_ble_eq_true rfl) d_X2_init_6 (fun q2 m3 _ _ => ?_)
  refine gm_putR F_2_row (Or.inr ⟨rfl, rfl⟩) gw_196 d_X2_init_8 (fun m4 _ => ?_)
  refine gm_aload_n d_X2_init_11 rfl 0 rfl ?_
  refine gm_iload_n d_X2_init_12 rfl 1 rfl ?_
  refine gm_putI F_2_number (Or.inl rfl) gw_166 d_X2_init_13 (fun m5 _ => ?_)
  refine gm_aload_n d_X2_init_16 rfl 0 rfl ?_
  refine gm_aload_n d_X2_init_17 rfl 2 rfl ?_
  refine gm_putR F_2_kind (Or.inl rfl) gw_171 d_X2_init_18 (fun m6 _ => ?_)
  exact gm_vret rfl d_X2_init_21 (Nat.le_of_ble_eq_true rfl) (Nat.le_of_ble_eq_true rfl) (fun h => h)
theorem d_X6_init_0 : decode prog_8_method_1_code 0 = .ok (.aload_n 0, 1) := by decide +kernel
theorem d_X6_init_1 : decode prog_8_method_1_code 1 = .ok (.iload_n 1, 1) := by decide +kernel
theorem d_X6_init_2 : decode prog_8_method_1_code 2 = .ok (.invokespecial 1, 3) := by decide +kernel
theorem d_X6_init_5 : decode prog_8_method_1_code 5 = .ok (.return_, 1) := by decide +kernel
def f_X6_init (a0 : Nat) (a1 : Int32) (μ : gm_M) : Option (Option Value × gm_M) := if gm_tag μ a0 ≠ 0 then gm_bV (f_X5_init a0 a1 μ) (fun m1 => some (none, m1)) else none
set_option maxHeartbeats 4000000 in
theorem c_X6_init (a0 : Nat) (a1 : Int32) (μ : gm_M) : gm_Call ({ cls := "GumBubble$Quick", name := "<init>", desc := "(I)V" } : Jvm.MethodName) prog_8_method_1_code 2 none 2 0 0 [.ref a0, .int a1] μ (f_X6_init a0 a1 μ) := by
  refine gm_start PN_6 (Nat.le_of_ble_eq_true rfl) (fun res μe => ?_)
  unfold f_X6_init
  show gm_A "GumBubble$Quick" (gm_nm "<init>") _ _ _ _ _ _ _ _ _ 0 [(0, .ref a0), (1, .int a1)] [] _ _
  refine gm_aload_n d_X6_init_0 rfl 0 rfl ?_
  refine gm_iload_n d_X6_init_1 rfl 1 rfl ?_
  refine gm_grd (fun g2 => ?_)
  refine gm_callI [.int a1] (c_X5_init a0 a1 μ) g2 rfl B_X5_init gw_68 rfl rfl rfl d_X6_init_2 (gm_kV (fun m1 => ?_))
  exact gm_vret rfl d_X6_init_5 (Nat.le_of_ble_eq_true rfl) (Nat.le_of_ble_eq_true rfl) (fun h => h)
theorem d_X4_init_0 : decode prog_6_method_1_code 0 = .ok (.aload_n 0, 1) := by decide +kernel
theorem d_X4_init_1 : decode prog_6_method_1_code 1 = .ok (.iload_n 1, 1) := by decide +kernel
theorem d_X4_init_2 : decode prog_6_method_1_code 2 = .ok (.invokespecial 1, 3) := by decide +kernel
theorem d_X4_init_5 : decode prog_6_method_1_code 5 = .ok (.return_, 1) := by decide +kernel
def f_X4_init (a0 : Nat) (a1 : Int32) (μ : gm_M) : Option (Option Value × gm_M) := if gm_tag μ a0 ≠ 0 then gm_bV (f_X6_init a0 a1 μ) (fun m1 => some (none, m1)) else none
set_option maxHeartbeats 4000000 in
theorem c_X4_init (a0 : Nat) (a1 : Int32) (μ : gm_M) : gm_Call ({ cls := "GumBubble$Greedy", name := "<init>", desc := "(I)V" } : Jvm.MethodName) prog_6_method_1_code 2 none 3 0 0 [.ref a0, .int a1] μ (f_X4_init a0 a1 μ) := by
  refine gm_start PN_4 (Nat.le_of_ble_eq_true rfl) (fun res μe => ?_)
  unfold f_X4_init
  show gm_A "GumBubble$Greedy" (gm_nm "<init>") _ _ _ _ _ _ _ _ _ 0 [(0, .ref a0), (1, .int a1)] [] _ _
  refine gm_aload_n d_X4_init_0 rfl 0 rfl ?_
  refine gm_iload_n d_X4_init_1 rfl 1 rfl ?_
  refine gm_grd (fun g2 => ?_)
  refine gm_callI [.int a1] (c_X6_init a0 a1 μ) g2 rfl B_X6_init gw_92 rfl rfl rfl d_X4_init_2 (gm_kV (fun m1 => ?_))
  exact gm_vret rfl d_X4_init_5 (Nat.le_of_ble_eq_true rfl) (Nat.le_of_ble_eq_true rfl) (fun h => h)
theorem d_X7_init_0 : decode prog_9_method_1_code 0 = .ok (.aload_n 0, 1) := by decide +kernel
theorem d_X7_init_1 : decode prog_9_method_1_code 1 = .ok (.invokespecial 1, 3) := by decide +kernel
theorem d_X7_init_4 : decode prog_9_method_1_code 4 = .ok (.aload_n 0, 1) := by decide +kernel
theorem d_X7_init_5 : decode prog_9_method_1_code 5 = .ok (.iload_n 1, 1) := by decide +kernel
theorem d_X7_init_6 : decode prog_9_method_1_code 6 = .ok (.putfield 7, 3) := by decide +kernel
theorem d_X7_init_9 : decode prog_9_method_1_code 9 = .ok (.aload_n 0, 1) := by decide +kernel
theorem d_X7_init_10 : decode prog_9_method_1_code 10 = .ok (.iconst 0, 1) := by decide +kernel
theorem d_X7_init_11 : decode prog_9_method_1_code 11 = .ok (.iload_n 1, 1) := by decide +kernel
theorem d_X7_init_12 : decode prog_9_method_1_code 12 = .ok (.invokestatic 13, 3) := by decide +kernel
theorem d_X7_init_15 : decode prog_9_method_1_code 15 = .ok (.iconst 3, 1) := by decide +kernel
theorem d_X7_init_16 : decode prog_9_method_1_code 16 = .ok (.imul, 1) := by decide +kernel
theorem d_X7_init_17 : decode prog_9_method_1_code 17 = .ok (.newarray .int, 2) := by decide +kernel
theorem d_X7_init_19 : decode prog_9_method_1_code 19 = .ok (.putfield 19, 3) := by decide +kernel
theorem d_X7_init_22 : decode prog_9_method_1_code 22 = .ok (.return_, 1) := by decide +kernel
def f_X7_init (a0 : Nat) (a1 : Int32) (μ : gm_M) : Option (Option Value × gm_M) := if gm_tag μ a0 ≠ 0 then gm_pI μ [12] a0 0 a1 (fun m2 => gm_nA m2 1 ((if (0 : Int32) < a1 then a1 else (0 : Int32)) * (3 : Int32)) 60 (fun q4 m5 => gm_pR m5 [12] a0 1 q4 (fun m6 => some (none, m6)))) else none
set_option maxHeartbeats 4000000 in
theorem c_X7_init (a0 : Nat) (a1 : Int32) (μ : gm_M) : gm_Call ({ cls := "GumBubble$Rows", name := "<init>", desc := "(I)V" } : Jvm.MethodName) prog_9_method_1_code 2 none 1 1 60 [.ref a0, .int a1] μ (f_X7_init a0 a1 μ) := by
  refine gm_start PN_7 (Nat.le_of_ble_eq_true rfl) (fun res μe => ?_)
  unfold f_X7_init
  show gm_A "GumBubble$Rows" (gm_nm "<init>") _ _ _ _ _ _ _ _ _ 0 [(0, .ref a0), (1, .int a1)] [] _ _
  refine gm_aload_n d_X7_init_0 rfl 0 rfl ?_
  refine gm_grd (fun g1 => ?_)
  refine gm_obj g1 gw_36 gw_27 gw_28 (Nat.le_of_ble_eq_true rfl) (Nat.le_of_ble_eq_true rfl) rfl d_X7_init_1 ?_
  refine gm_aload_n d_X7_init_4 rfl 0 rfl ?_
  refine gm_iload_n d_X7_init_5 rfl 1 rfl ?_
  refine gm_putI F_7_limit (Or.inr ⟨rfl, rfl⟩) gw_40 d_X7_init_6 (fun m2 _ => ?_)
  refine gm_aload_n d_X7_init_9 rfl 0 rfl ?_
  refine gm_iconst (v := 0) d_X7_init_10 (by decide) ?_
  refine gm_iload_n d_X7_init_11 rfl 1 rfl ?_
  refine gm_max gw_37 gw_38 gw_3 (show _ from gw_39) (Nat.le_of_ble_eq_true rfl) (Nat.le_of_ble_eq_true rfl) (Nat.le_of_ble_eq_true rfl) (Nat.le_of_ble_eq_true rfl) rfl d_X7_init_12 ?_
  refine gm_iconst (v := 3) d_X7_init_15 (by decide) ?_
  refine gm_imul d_X7_init_16 ?_
  refine gm_newaI (B := 60) (Nat.le_of_ble_eq_true rfl) gw_51 (Nat.le_of_ble_eq_true rfl) (Nat.le_of_ble_eq_true rfl) d_X7_init_17 (fun q4 m5 _ _ => ?_)
  refine gm_putR F_7_cells (Or.inr ⟨rfl, rfl⟩) gw_41 d_X7_init_19 (fun m6 _ => ?_)
  exact gm_vret rfl d_X7_init_22 (Nat.le_of_ble_eq_true rfl) (Nat.le_of_ble_eq_true rfl) (fun h => h)
theorem d_X8_init_0 : decode prog_10_method_1_code 0 = .ok (.aload_n 0, 1) := by decide +kernel
theorem d_X8_init_1 : decode prog_10_method_1_code 1 = .ok (.invokespecial 3, 3) := by decide +kernel
theorem d_X8_init_4 : decode prog_10_method_1_code 4 = .ok (.aload_n 0, 1) := by decide +kernel
theorem d_X8_init_5 : decode prog_10_method_1_code 5 = .ok (.iconst 5, 1) := by decide +kernel
theorem d_X8_init_6 : decode prog_10_method_1_code 6 = .ok (.anewarray 9, 3) := by decide +kernel
theorem d_X8_init_9 : decode prog_10_method_1_code 9 = .ok (.putfield 11, 3) := by decide +kernel
theorem d_X8_init_12 : decode prog_10_method_1_code 12 = .ok (.aload_n 0, 1) := by decide +kernel
theorem d_X8_init_13 : decode prog_10_method_1_code 13 = .ok (.bipush 100, 2) := by decide +kernel
theorem d_X8_init_15 : decode prog_10_method_1_code 15 = .ok (.newarray .int, 2) := by decide +kernel
theorem d_X8_init_17 : decode prog_10_method_1_code 17 = .ok (.putfield 17, 3) := by decide +kernel
theorem d_X8_init_20 : decode prog_10_method_1_code 20 = .ok (.aload_n 0, 1) := by decide +kernel
theorem d_X8_init_21 : decode prog_10_method_1_code 21 = .ok (.new 21, 3) := by decide +kernel
theorem d_X8_init_24 : decode prog_10_method_1_code 24 = .ok (.dup, 1) := by decide +kernel
theorem d_X8_init_25 : decode prog_10_method_1_code 25 = .ok (.invokespecial 23, 3) := by decide +kernel
theorem d_X8_init_28 : decode prog_10_method_1_code 28 = .ok (.putfield 24, 3) := by decide +kernel
theorem d_X8_init_31 : decode prog_10_method_1_code 31 = .ok (.aload_n 0, 1) := by decide +kernel
theorem d_X8_init_32 : decode prog_10_method_1_code 32 = .ok (.new 28, 3) := by decide +kernel
theorem d_X8_init_35 : decode prog_10_method_1_code 35 = .ok (.dup, 1) := by decide +kernel
theorem d_X8_init_36 : decode prog_10_method_1_code 36 = .ok (.iconst 5, 1) := by decide +kernel
theorem d_X8_init_37 : decode prog_10_method_1_code 37 = .ok (.invokespecial 30, 3) := by decide +kernel
theorem d_X8_init_40 : decode prog_10_method_1_code 40 = .ok (.putfield 33, 3) := by decide +kernel
theorem d_X8_init_43 : decode prog_10_method_1_code 43 = .ok (.aload_n 0, 1) := by decide +kernel
theorem d_X8_init_44 : decode prog_10_method_1_code 44 = .ok (.new 28, 3) := by decide +kernel
theorem d_X8_init_47 : decode prog_10_method_1_code 47 = .ok (.dup, 1) := by decide +kernel
theorem d_X8_init_48 : decode prog_10_method_1_code 48 = .ok (.bipush 8, 2) := by decide +kernel
theorem d_X8_init_50 : decode prog_10_method_1_code 50 = .ok (.invokespecial 30, 3) := by decide +kernel
theorem d_X8_init_53 : decode prog_10_method_1_code 53 = .ok (.putfield 37, 3) := by decide +kernel
theorem d_X8_init_56 : decode prog_10_method_1_code 56 = .ok (.aload_n 0, 1) := by decide +kernel
theorem d_X8_init_57 : decode prog_10_method_1_code 57 = .ok (.new 28, 3) := by decide +kernel
theorem d_X8_init_60 : decode prog_10_method_1_code 60 = .ok (.dup, 1) := by decide +kernel
theorem d_X8_init_61 : decode prog_10_method_1_code 61 = .ok (.bipush 8, 2) := by decide +kernel
theorem d_X8_init_63 : decode prog_10_method_1_code 63 = .ok (.invokespecial 30, 3) := by decide +kernel
theorem d_X8_init_66 : decode prog_10_method_1_code 66 = .ok (.putfield 40, 3) := by decide +kernel
theorem d_X8_init_69 : decode prog_10_method_1_code 69 = .ok (.iconst 0, 1) := by decide +kernel
theorem d_X8_init_70 : decode prog_10_method_1_code 70 = .ok (.istore_n 2, 1) := by decide +kernel
theorem d_X8_init_71 : decode prog_10_method_1_code 71 = .ok (.iload_n 2, 1) := by decide +kernel
theorem d_X8_init_72 : decode prog_10_method_1_code 72 = .ok (.iconst 5, 1) := by decide +kernel
theorem d_X8_init_73 : decode prog_10_method_1_code 73 = .ok (.if_icmp .ge 24, 3) := by decide +kernel
theorem d_X8_init_76 : decode prog_10_method_1_code 76 = .ok (.aload_n 0, 1) := by decide +kernel
theorem d_X8_init_77 : decode prog_10_method_1_code 77 = .ok (.getfield 11, 3) := by decide +kernel
theorem d_X8_init_80 : decode prog_10_method_1_code 80 = .ok (.iload_n 2, 1) := by decide +kernel
theorem d_X8_init_81 : decode prog_10_method_1_code 81 = .ok (.new 9, 3) := by decide +kernel
theorem d_X8_init_84 : decode prog_10_method_1_code 84 = .ok (.dup, 1) := by decide +kernel
theorem d_X8_init_85 : decode prog_10_method_1_code 85 = .ok (.iload_n 2, 1) := by decide +kernel
theorem d_X8_init_86 : decode prog_10_method_1_code 86 = .ok (.aload_n 1, 1) := by decide +kernel
theorem d_X8_init_87 : decode prog_10_method_1_code 87 = .ok (.invokespecial 43, 3) := by decide +kernel
theorem d_X8_init_90 : decode prog_10_method_1_code 90 = .ok (.aastore, 1) := by decide +kernel
theorem d_X8_init_91 : decode prog_10_method_1_code 91 = .ok (.iinc 2 1, 3) := by decide +kernel
theorem d_X8_init_94 : decode prog_10_method_1_code 94 = .ok (.goto (-23), 3) := by decide +kernel
theorem d_X8_init_97 : decode prog_10_method_1_code 97 = .ok (.return_, 1) := by decide +kernel
def f_X8_init (a0 : Nat) (a1 : Nat) (μ : gm_M) : Option (Option Value × gm_M) := if gm_tag μ a0 ≠ 0 then gm_nA μ 4 (5 : Int32) 5 (fun q2 m3 => gm_pR m3 [13] a0 2 q2 (fun m4 => gm_nA m4 1 (100 : Int32) 100 (fun q5 m6 => gm_pR m6 [13] a0 3 q5 (fun m7 => gm_mk m7 5 10 (fun q8 m9 => if gm_tag m9 q8 ≠ 0 then gm_bV (f_X0_init q8 m9) (fun m10 => gm_pR m10 [13] a0 6 q8 (fun m12 => gm_mk m12 12 3 (fun q13 m14 => if gm_tag m14 q13 ≠ 0 then gm_bV (f_X7_init q13 (5 : Int32) m14) (fun m15 => gm_pR m15 [13] a0 7 q13 (fun m17 => gm_mk m17 12 3 (fun q18 m19 => if gm_tag m19 q18 ≠ 0 then gm_bV (f_X7_init q18 (8 : Int32) m19) (fun m20 => gm_pR m20 [13] a0 8 q18 (fun m22 => gm_mk m22 12 3 (fun q23 m24 => if gm_tag m24 q23 ≠ 0 then gm_bV (f_X7_init q23 (8 : Int32) m24) (fun m25 => gm_pR m25 [13] a0 9 q23 (fun m27 => if (5 : Int32) ≤ (0 : Int32) then some (none, m27) else gm_gR m27 [13] a0 2 (fun v28 => gm_mk m27 7 9 (fun q29 m30 => if gm_tag m30 q29 ≠ 0 then gm_bV (f_X2_init q29 (0 : Int32) a1 m30) (fun m31 => gm_sR m31 4 [7] v28 (0 : Int32) q29 (fun m33 => if (5 : Int32) ≤ ((0 : Int32) + (1 : Int32)) then some (none, m33) else gm_gR m33 [13] a0 2 (fun v34 => gm_mk m33 7 9 (fun q35 m36 => if gm_tag m36 q35 ≠ 0 then gm_bV (f_X2_init q35 ((0 : Int32) + (1 : Int32)) a1 m36) (fun m37 => gm_sR m37 4 [7] v34 ((0 : Int32) + (1 : Int32)) q35 (fun m39 => if (5 : Int32) ≤ (((0 : Int32) + (1 : Int32)) + (1 : Int32)) then some (none, m39) else gm_gR m39 [13] a0 2 (fun v40 => gm_mk m39 7 9 (fun q41 m42 => if gm_tag m42 q41 ≠ 0 then gm_bV (f_X2_init q41 (((0 : Int32) + (1 : Int32)) + (1 : Int32)) a1 m42) (fun m43 => gm_sR m43 4 [7] v40 (((0 : Int32) + (1 : Int32)) + (1 : Int32)) q41 (fun m45 => if (5 : Int32) ≤ ((((0 : Int32) + (1 : Int32)) + (1 : Int32)) + (1 : Int32)) then some (none, m45) else gm_gR m45 [13] a0 2 (fun v46 => gm_mk m45 7 9 (fun q47 m48 => if gm_tag m48 q47 ≠ 0 then gm_bV (f_X2_init q47 ((((0 : Int32) + (1 : Int32)) + (1 : Int32)) + (1 : Int32)) a1 m48) (fun m49 => gm_sR m49 4 [7] v46 ((((0 : Int32) + (1 : Int32)) + (1 : Int32)) + (1 : Int32)) q47 (fun m51 => if (5 : Int32) ≤ (((((0 : Int32) + (1 : Int32)) + (1 : Int32)) + (1 : Int32)) + (1 : Int32)) then some (none, m51) else gm_gR m51 [13] a0 2 (fun v52 => gm_mk m51 7 9 (fun q53 m54 => if gm_tag m54 q53 ≠ 0 then gm_bV (f_X2_init q53 (((((0 : Int32) + (1 : Int32)) + (1 : Int32)) + (1 : Int32)) + (1 : Int32)) a1 m54) (fun m55 => gm_sR m55 4 [7] v52 (((((0 : Int32) + (1 : Int32)) + (1 : Int32)) + (1 : Int32)) + (1 : Int32)) q53 (fun m57 => if (5 : Int32) ≤ ((((((0 : Int32) + (1 : Int32)) + (1 : Int32)) + (1 : Int32)) + (1 : Int32)) + (1 : Int32)) then some (none, m57) else gm_gR m57 [13] a0 2 (fun v58 => gm_mk m57 7 9 (fun q59 m60 => if gm_tag m60 q59 ≠ 0 then gm_bV (f_X2_init q59 ((((((0 : Int32) + (1 : Int32)) + (1 : Int32)) + (1 : Int32)) + (1 : Int32)) + (1 : Int32)) a1 m60) (fun m61 => gm_sR m61 4 [7] v58 ((((((0 : Int32) + (1 : Int32)) + (1 : Int32)) + (1 : Int32)) + (1 : Int32)) + (1 : Int32)) q59 (fun m63 => if (5 : Int32) ≤ (((((((0 : Int32) + (1 : Int32)) + (1 : Int32)) + (1 : Int32)) + (1 : Int32)) + (1 : Int32)) + (1 : Int32)) then some (none, m63) else gm_gR m63 [13] a0 2 (fun v64 => gm_mk m63 7 9 (fun q65 m66 => if gm_tag m66 q65 ≠ 0 then gm_bV (f_X2_init q65 (((((((0 : Int32) + (1 : Int32)) + (1 : Int32)) + (1 : Int32)) + (1 : Int32)) + (1 : Int32)) + (1 : Int32)) a1 m66) (fun m67 => gm_sR m67 4 [7] v64 (((((((0 : Int32) + (1 : Int32)) + (1 : Int32)) + (1 : Int32)) + (1 : Int32)) + (1 : Int32)) + (1 : Int32)) q65 (fun m69 => if (5 : Int32) ≤ ((((((((0 : Int32) + (1 : Int32)) + (1 : Int32)) + (1 : Int32)) + (1 : Int32)) + (1 : Int32)) + (1 : Int32)) + (1 : Int32)) then some (none, m69) else gm_gR m69 [13] a0 2 (fun v70 => gm_mk m69 7 9 (fun q71 m72 => if gm_tag m72 q71 ≠ 0 then gm_bV (f_X2_init q71 ((((((((0 : Int32) + (1 : Int32)) + (1 : Int32)) + (1 : Int32)) + (1 : Int32)) + (1 : Int32)) + (1 : Int32)) + (1 : Int32)) a1 m72) (fun m73 => gm_sR m73 4 [7] v70 ((((((((0 : Int32) + (1 : Int32)) + (1 : Int32)) + (1 : Int32)) + (1 : Int32)) + (1 : Int32)) + (1 : Int32)) + (1 : Int32)) q71 (fun m75 => none)) else none)))) else none)))) else none)))) else none)))) else none)))) else none)))) else none)))) else none)))) else none))) else none))) else none))) else none))))) else none
set_option maxHeartbeats 4000000 in
theorem c_X8_init (a0 : Nat) (a1 : Nat) (μ : gm_M) : gm_Call ({ cls := "GumBubble$Scene", name := "<init>", desc := "(LGumBubble$Plain;)V" } : Jvm.MethodName) prog_10_method_1_code 3 none 2 29 528 [.ref a0, .ref a1] μ (f_X8_init a0 a1 μ) := by
  refine gm_start PN_8 (Nat.le_of_ble_eq_true rfl) (fun res μe => ?_)
  unfold f_X8_init
  show gm_A "GumBubble$Scene" (gm_nm "<init>") _ _ _ _ _ _ _ _ _ 0 [(0, .ref a0), (1, .ref a1)] [] _ _
  refine gm_aload_n d_X8_init_0 rfl 0 rfl ?_
  refine gm_grd (fun g1 => ?_)
  refine gm_obj g1 gw_116 gw_27 gw_28 (Nat.le_of_ble_eq_true rfl) (Nat.le_of_ble_eq_true rfl) rfl d_X8_init_1 ?_
  refine gm_aload_n d_X8_init_4 rfl 0 rfl ?_
  refine gm_iconst (v := 5) d_X8_init_5 (by decide) ?_
  refine gm_anewA (t := 4) (B := 5) (Or.inr ⟨rfl, rfl⟩) (Nat.le_of_ble_eq_true rfl) gw_117 (Nat.le_of_ble_eq_true rfl) (Nat.le_of_ble_eq_true rfl) d_X8_init_6 (fun q2 m3 _ _ => ?_)
  refine gm_putR F_8_children (Or.inr ⟨rfl, rfl⟩) gw_222 d_X8_init_9 (fun m4 _ => ?_)
  refine gm_aload_n d_X8_init_12 rfl 0 rfl ?_
  refine gm_bipush (v := 100) d_X8_init_13 (by decide) ?_
  refine gm_newaI (B := 100) (Nat.le_of_ble_eq_true rfl) gw_51 (Nat.le_of_ble_eq_true rfl) (Nat.le_of_ble_eq_true rfl) d_X8_init_15 (fun q5 m6 _ _ => ?_)
  refine gm_putR F_8_tape (Or.inr ⟨rfl, rfl⟩) gw_224 d_X8_init_17 (fun m7 _ => ?_)
  refine gm_aload_n d_X8_init_20 rfl 0 rfl ?_
  refine gm_new (k0 := 0) (T := gm_T0) (N := 10) rfl gw_119 gw_120 gw_12 (Nat.le_of_ble_eq_true rfl) (Nat.le_of_ble_eq_true rfl) d_X8_init_21 (fun q8 m9 _ _ => ?_)
  refine gm_dup d_X8_init_24 rfl ?_
  refine gm_grd (fun g25 => ?_)
  refine gm_callIN [] (c_X0_init q8 m9) g25 rfl B_X0_init (by first | exact Or.inl rfl | exact Or.inr rfl) rfl rfl rfl d_X8_init_25 (gm_kV (fun m10 => ?_))
  refine gm_putR F_8_afternoon (Or.inl rfl) gw_230 d_X8_init_28 (fun m12 _ => ?_)
  refine gm_aload_n d_X8_init_31 rfl 0 rfl ?_
  refine gm_new (k0 := 7) (T := gm_T7) (N := 3) rfl gw_159 gw_32 gw_2 (Nat.le_of_ble_eq_true rfl) (Nat.le_of_ble_eq_true rfl) d_X8_init_32 (fun q13 m14 _ _ => ?_)
  refine gm_dup d_X8_init_35 rfl ?_
  refine gm_iconst (v := 5) d_X8_init_36 (by decide) ?_
  refine gm_grd (fun g37 => ?_)
  refine gm_callI [.int (5 : Int32)] (c_X7_init q13 (5 : Int32) m14) g37 rfl B_X7_init gw_160 rfl rfl rfl d_X8_init_37 (gm_kV (fun m15 => ?_))
  refine gm_putR F_8_seen (Or.inr ⟨rfl, rfl⟩) gw_232 d_X8_init_40 (fun m17 _ => ?_)
  refine gm_aload_n d_X8_init_43 rfl 0 rfl ?_
  refine gm_new (k0 := 7) (T := gm_T7) (N := 3) rfl gw_159 gw_32 gw_2 (Nat.le_of_ble_eq_true rfl) (Nat.le_of_ble_eq_true rfl) d_X8_init_44 (fun q18 m19 _ _ => ?_)
  refine gm_dup d_X8_init_47 rfl ?_
  refine gm_bipush (v := 8) d_X8_init_48 (by decide) ?_
  refine gm_grd (fun g50 => ?_)
  refine gm_callI [.int (8 : Int32)] (c_X7_init q18 (8 : Int32) m19) g50 rfl B_X7_init gw_160 rfl rfl rfl d_X8_init_50 (gm_kV (fun m20 => ?_))
  refine gm_putR F_8_plan (Or.inr ⟨rfl, rfl⟩) gw_234 d_X8_init_53 (fun m22 _ => ?_)
  refine gm_aload_n d_X8_init_56 rfl 0 rfl ?_
  refine gm_new (k0 := 7) (T := gm_T7) (N := 3) rfl gw_159 gw_32 gw_2 (Nat.le_of_ble_eq_true rfl) (Nat.le_of_ble_eq_true rfl) d_X8_init_57 (fun q23 m24 _ _ => ?_)
  refine gm_dup d_X8_init_60 rfl ?_
  refine gm_bipush (v := 8) d_X8_init_61 (by decide) ?_
  refine gm_grd (fun g63 => ?_)
  refine gm_callI [.int (8 : Int32)] (c_X7_init q23 (8 : Int32) m24) g63 rfl B_X7_init gw_160 rfl rfl rfl d_X8_init_63 (gm_kV (fun m25 => ?_))
  refine gm_putR F_8_book (Or.inr ⟨rfl, rfl⟩) gw_236 d_X8_init_66 (fun m27 _ => ?_)
  refine gm_iconst (v := 0) d_X8_init_69 (by decide) ?_
  refine gm_istore_n (L' := [(2, .int (0 : Int32)), (0, .ref a0), (1, .ref a1)]) d_X8_init_70 rfl (Nat.le_of_ble_eq_true rfl) rfl ?_
  refine gm_iload_n d_X8_init_71 rfl 0 rfl ?_
  refine gm_iconst (v := 5) d_X8_init_72 (by decide) ?_
  refine gm_icmp_ge (tgt := 97) d_X8_init_73 (by decide) (fun h73 => ?_) (fun h73 => ?_)
  ·
    exact gm_vret rfl d_X8_init_97 (Nat.le_of_ble_eq_true rfl) (Nat.le_of_ble_eq_true rfl) (fun h => h)
  ·
    refine gm_aload_n d_X8_init_76 rfl 1 rfl ?_
    refine gm_getR F_8_children gw_222 d_X8_init_77 (fun v28 _ => ?_)
    refine gm_iload_n d_X8_init_80 rfl 0 rfl ?_
    refine gm_new (k0 := 2) (T := gm_T2) (N := 9) rfl gw_117 gw_161 gw_13 (Nat.le_of_ble_eq_true rfl) (Nat.le_of_ble_eq_true rfl) d_X8_init_81 (fun q29 m30 _ _ => ?_)
    refine gm_dup d_X8_init_84 rfl ?_
    refine gm_iload_n d_X8_init_85 rfl 0 rfl ?_
    refine gm_aload_n d_X8_init_86 rfl 2 rfl ?_
    refine gm_grd (fun g87 => ?_)
    refine gm_callI [.int (0 : Int32), .ref a1] (c_X2_init q29 (0 : Int32) a1 m30) g87 rfl B_X2_init gw_162 rfl rfl rfl d_X8_init_87 (gm_kV (fun m31 => ?_))
    refine gm_aast (Or.inr ⟨rfl, rfl⟩) Sub_4 d_X8_init_90 (fun m33 _ => ?_)
    refine gm_iinc (v := (0 : Int32) + (1 : Int32)) (L' := [(2, .int ((0 : Int32) + (1 : Int32))), (0, .ref a0), (1, .ref a1)]) d_X8_init_91 0 rfl rfl (Nat.le_of_ble_eq_true rfl) rfl ?_
    refine gm_goto (tgt := 71) d_X8_init_94 (by decide) ?_
    refine gm_iload_n d_X8_init_71 rfl 0 rfl ?_
    refine gm_iconst (v := 5) d_X8_init_72 (by decide) ?_
    refine gm_icmp_ge (tgt := 97) d_X8_init_73 (by decide) (fun h73 => ?_) (fun h73 => ?_)
    ·
      exact gm_vret rfl d_X8_init_97 (Nat.le_of_ble_eq_true rfl) (Nat.le_of_ble_eq_true rfl) (fun h => h)
    ·
      refine gm_aload_n d_X8_init_76 rfl 1 rfl ?_
      refine gm_getR F_8_children gw_222 d_X8_init_77 (fun v34 _ => ?_)
      refine gm_iload_n d_X8_init_80 rfl 0 rfl ?_
      refine gm_new (k0 := 2) (T := gm_T2) (N := 9) rfl gw_117 gw_161 gw_13 (Nat.le_of_ble_eq_true rfl) (Nat.le_of_ble_eq_true rfl) d_X8_init_81 (fun q35 m36 _ _ => ?_)
      refine gm_dup d_X8_init_84 rfl ?_
      refine gm_iload_n d_X8_init_85 rfl 0 rfl ?_
      refine gm_aload_n d_X8_init_86 rfl 2 rfl ?_
      refine gm_grd (fun g87 => ?_)
      refine gm_callI [.int ((0 : Int32) + (1 : Int32)), .ref a1] (c_X2_init q35 ((0 : Int32) + (1 : Int32)) a1 m36) g87 rfl B_X2_init gw_162 rfl rfl rfl d_X8_init_87 (gm_kV (fun m37 => ?_))
      refine gm_aast (Or.inr ⟨rfl, rfl⟩) Sub_4 d_X8_init_90 (fun m39 _ => ?_)
      refine gm_iinc (v := ((0 : Int32) + (1 : Int32)) + (1 : Int32)) (L' := [(2, .int (((0 : Int32) + (1 : Int32)) + (1 : Int32))), (0, .ref a0), (1, .ref a1)]) d_X8_init_91 0 rfl rfl (Nat.le_of_ble_eq_true rfl) rfl ?_
      refine gm_goto (tgt := 71) d_X8_init_94 (by decide) ?_
      refine gm_iload_n d_X8_init_71 rfl 0 rfl ?_
      refine gm_iconst (v := 5) d_X8_init_72 (by decide) ?_
      refine gm_icmp_ge (tgt := 97) d_X8_init_73 (by decide) (fun h73 => ?_) (fun h73 => ?_)
      ·
        exact gm_vret rfl d_X8_init_97 (Nat.le_of_ble_eq_true rfl) (Nat.le_of_ble_eq_true rfl) (fun h => h)
      ·
        refine gm_aload_n d_X8_init_76 rfl 1 rfl ?_
        refine gm_getR F_8_children gw_222 d_X8_init_77 (fun v40 _ => ?_)
        refine gm_iload_n d_X8_init_80 rfl 0 rfl ?_
        refine gm_new (k0 := 2) (T := gm_T2) (N := 9) rfl gw_117 gw_161 gw_13 (Nat.le_of_ble_eq_true rfl) (Nat.le_of_ble_eq_true rfl) d_X8_init_81 (fun q41 m42 _ _ => ?_)
        refine gm_dup d_X8_init_84 rfl ?_
        refine gm_iload_n d_X8_init_85 rfl 0 rfl ?_
        refine gm_aload_n d_X8_init_86 rfl 2 rfl ?_
        refine gm_grd (fun g87 => ?_)
        refine gm_callI [.int (((0 : Int32) + (1 : Int32)) + (1 : Int32)), .ref a1] (c_X2_init q41 (((0 : Int32) + (1 : Int32)) + (1 : Int32)) a1 m42) g87 rfl B_X2_init gw_162 rfl rfl rfl d_X8_init_87 (gm_kV (fun m43 => ?_))
        refine gm_aast (Or.inr ⟨rfl, rfl⟩) Sub_4 d_X8_init_90 (fun m45 _ => ?_)
        refine gm_iinc (v := (((0 : Int32) + (1 : Int32)) + (1 : Int32)) + (1 : Int32)) (L' := [(2, .int ((((0 : Int32) + (1 : Int32)) + (1 : Int32)) + (1 : Int32))), (0, .ref a0), (1, .ref a1)]) d_X8_init_91 0 rfl rfl (Nat.le_of_ble_eq_true rfl) rfl ?_
        refine gm_goto (tgt := 71) d_X8_init_94 (by decide) ?_
        refine gm_iload_n d_X8_init_71 rfl 0 rfl ?_
        refine gm_iconst (v := 5) d_X8_init_72 (by decide) ?_
        refine gm_icmp_ge (tgt := 97) d_X8_init_73 (by decide) (fun h73 => ?_) (fun h73 => ?_)
        ·
          exact gm_vret rfl d_X8_init_97 (Nat.le_of_ble_eq_true rfl) (Nat.le_of_ble_eq_true rfl) (fun h => h)
        ·
          refine gm_aload_n d_X8_init_76 rfl 1 rfl ?_
          refine gm_getR F_8_children gw_222 d_X8_init_77 (fun v46 _ => ?_)
          refine gm_iload_n d_X8_init_80 rfl 0 rfl ?_
          refine gm_new (k0 := 2) (T := gm_T2) (N := 9) rfl gw_117 gw_161 gw_13 (Nat.le_of_ble_eq_true rfl) (Nat.le_of_ble_eq_true rfl) d_X8_init_81 (fun q47 m48 _ _ => ?_)
          refine gm_dup d_X8_init_84 rfl ?_
          refine gm_iload_n d_X8_init_85 rfl 0 rfl ?_
          refine gm_aload_n d_X8_init_86 rfl 2 rfl ?_
          refine gm_grd (fun g87 => ?_)
          refine gm_callI [.int ((((0 : Int32) + (1 : Int32)) + (1 : Int32)) + (1 : Int32)), .ref a1] (c_X2_init q47 ((((0 : Int32) + (1 : Int32)) + (1 : Int32)) + (1 : Int32)) a1 m48) g87 rfl B_X2_init gw_162 rfl rfl rfl d_X8_init_87 (gm_kV (fun m49 => ?_))
          refine gm_aast (Or.inr ⟨rfl, rfl⟩) Sub_4 d_X8_init_90 (fun m51 _ => ?_)
          refine gm_iinc (v := ((((0 : Int32) + (1 : Int32)) + (1 : Int32)) + (1 : Int32)) + (1 : Int32)) (L' := [(2, .int (((((0 : Int32) + (1 : Int32)) + (1 : Int32)) + (1 : Int32)) + (1 : Int32))), (0, .ref a0), (1, .ref a1)]) d_X8_init_91 0 rfl rfl (Nat.le_of_ble_eq_true rfl) rfl ?_
          refine gm_goto (tgt := 71) d_X8_init_94 (by decide) ?_
          refine gm_iload_n d_X8_init_71 rfl 0 rfl ?_
          refine gm_iconst (v := 5) d_X8_init_72 (by decide) ?_
          refine gm_icmp_ge (tgt := 97) d_X8_init_73 (by decide) (fun h73 => ?_) (fun h73 => ?_)
          ·
            exact gm_vret rfl d_X8_init_97 (Nat.le_of_ble_eq_true rfl) (Nat.le_of_ble_eq_true rfl) (fun h => h)
          ·
            refine gm_aload_n d_X8_init_76 rfl 1 rfl ?_
            refine gm_getR F_8_children gw_222 d_X8_init_77 (fun v52 _ => ?_)
            refine gm_iload_n d_X8_init_80 rfl 0 rfl ?_
            refine gm_new (k0 := 2) (T := gm_T2) (N := 9) rfl gw_117 gw_161 gw_13 (Nat.le_of_ble_eq_true rfl) (Nat.le_of_ble_eq_true rfl) d_X8_init_81 (fun q53 m54 _ _ => ?_)
            refine gm_dup d_X8_init_84 rfl ?_
            refine gm_iload_n d_X8_init_85 rfl 0 rfl ?_
            refine gm_aload_n d_X8_init_86 rfl 2 rfl ?_
            refine gm_grd (fun g87 => ?_)
            refine gm_callI [.int (((((0 : Int32) + (1 : Int32)) + (1 : Int32)) + (1 : Int32)) + (1 : Int32)), .ref a1] (c_X2_init q53 (((((0 : Int32) + (1 : Int32)) + (1 : Int32)) + (1 : Int32)) + (1 : Int32)) a1 m54) g87 rfl B_X2_init gw_162 rfl rfl rfl d_X8_init_87 (gm_kV (fun m55 => ?_))
            refine gm_aast (Or.inr ⟨rfl, rfl⟩) Sub_4 d_X8_init_90 (fun m57 _ => ?_)
            refine gm_iinc (v := (((((0 : Int32) + (1 : Int32)) + (1 : Int32)) + (1 : Int32)) + (1 : Int32)) + (1 : Int32)) (L' := [(2, .int ((((((0 : Int32) + (1 : Int32)) + (1 : Int32)) + (1 : Int32)) + (1 : Int32)) + (1 : Int32))), (0, .ref a0), (1, .ref a1)]) d_X8_init_91 0 rfl rfl (Nat.le_of_ble_eq_true rfl) rfl ?_
            refine gm_goto (tgt := 71) d_X8_init_94 (by decide) ?_
            refine gm_iload_n d_X8_init_71 rfl 0 rfl ?_
            refine gm_iconst (v := 5) d_X8_init_72 (by decide) ?_
            refine gm_icmp_ge (tgt := 97) d_X8_init_73 (by decide) (fun h73 => ?_) (fun h73 => ?_)
            ·
              exact gm_vret rfl d_X8_init_97 (Nat.le_of_ble_eq_true rfl) (Nat.le_of_ble_eq_true rfl) (fun h => h)
            ·
              refine gm_aload_n d_X8_init_76 rfl 1 rfl ?_
              refine gm_getR F_8_children gw_222 d_X8_init_77 (fun v58 _ => ?_)
              refine gm_iload_n d_X8_init_80 rfl 0 rfl ?_
              refine gm_new (k0 := 2) (T := gm_T2) (N := 9) rfl gw_117 gw_161 gw_13 (Nat.le_of_ble_eq_true rfl) (Nat.le_of_ble_eq_true rfl) d_X8_init_81 (fun q59 m60 _ _ => ?_)
              refine gm_dup d_X8_init_84 rfl ?_
              refine gm_iload_n d_X8_init_85 rfl 0 rfl ?_
              refine gm_aload_n d_X8_init_86 rfl 2 rfl ?_
              refine gm_grd (fun g87 => ?_)
              refine gm_callI [.int ((((((0 : Int32) + (1 : Int32)) + (1 : Int32)) + (1 : Int32)) + (1 : Int32)) + (1 : Int32)), .ref a1] (c_X2_init q59 ((((((0 : Int32) + (1 : Int32)) + (1 : Int32)) + (1 : Int32)) + (1 : Int32)) + (1 : Int32)) a1 m60) g87 rfl B_X2_init gw_162 rfl rfl rfl d_X8_init_87 (gm_kV (fun m61 => ?_))
              refine gm_aast (Or.inr ⟨rfl, rfl⟩) Sub_4 d_X8_init_90 (fun m63 _ => ?_)
              refine gm_iinc (v := ((((((0 : Int32) + (1 : Int32)) + (1 : Int32)) + (1 : Int32)) + (1 : Int32)) + (1 : Int32)) + (1 : Int32)) (L' := [(2, .int (((((((0 : Int32) + (1 : Int32)) + (1 : Int32)) + (1 : Int32)) + (1 : Int32)) + (1 : Int32)) + (1 : Int32))), (0, .ref a0), (1, .ref a1)]) d_X8_init_91 0 rfl rfl (Nat.le_of_ble_eq_true rfl) rfl ?_
              refine gm_goto (tgt := 71) d_X8_init_94 (by decide) ?_
              refine gm_iload_n d_X8_init_71 rfl 0 rfl ?_
              refine gm_iconst (v := 5) d_X8_init_72 (by decide) ?_
              refine gm_icmp_ge (tgt := 97) d_X8_init_73 (by decide) (fun h73 => ?_) (fun h73 => ?_)
              ·
                exact gm_vret rfl d_X8_init_97 (Nat.le_of_ble_eq_true rfl) (Nat.le_of_ble_eq_true rfl) (fun h => h)
              ·
                refine gm_aload_n d_X8_init_76 rfl 1 rfl ?_
                refine gm_getR F_8_children gw_222 d_X8_init_77 (fun v64 _ => ?_)
                refine gm_iload_n d_X8_init_80 rfl 0 rfl ?_
                refine gm_new (k0 := 2) (T := gm_T2) (N := 9) rfl gw_117 gw_161 gw_13 (Nat.le_of_ble_eq_true rfl) (Nat.le_of_ble_eq_true rfl) d_X8_init_81 (fun q65 m66 _ _ => ?_)
                refine gm_dup d_X8_init_84 rfl ?_
                refine gm_iload_n d_X8_init_85 rfl 0 rfl ?_
                refine gm_aload_n d_X8_init_86 rfl 2 rfl ?_
                refine gm_grd (fun g87 => ?_)
                refine gm_callI [.int (((((((0 : Int32) + (1 : Int32)) + (1 : Int32)) + (1 : Int32)) + (1 : Int32)) + (1 : Int32)) + (1 : Int32)), .ref a1] (c_X2_init q65 (((((((0 : Int32) + (1 : Int32)) + (1 : Int32)) + (1 : Int32)) + (1 : Int32)) + (1 : Int32)) + (1 : Int32)) a1 m66) g87 rfl B_X2_init gw_162 rfl rfl rfl d_X8_init_87 (gm_kV (fun m67 => ?_))
                refine gm_aast (Or.inr ⟨rfl, rfl⟩) Sub_4 d_X8_init_90 (fun m69 _ => ?_)
                refine gm_iinc (v := (((((((0 : Int32) + (1 : Int32)) + (1 : Int32)) + (1 : Int32)) + (1 : Int32)) + (1 : Int32)) + (1 : Int32)) + (1 : Int32)) (L' := [(2, .int ((((((((0 : Int32) + (1 : Int32)) + (1 : Int32)) + (1 : Int32)) + (1 : Int32)) + (1 : Int32)) + (1 : Int32)) + (1 : Int32))), (0, .ref a0), (1, .ref a1)]) d_X8_init_91 0 rfl rfl (Nat.le_of_ble_eq_true rfl) rfl ?_
                refine gm_goto (tgt := 71) d_X8_init_94 (by decide) ?_
                refine gm_iload_n d_X8_init_71 rfl 0 rfl ?_
                refine gm_iconst (v := 5) d_X8_init_72 (by decide) ?_
                refine gm_icmp_ge (tgt := 97) d_X8_init_73 (by decide) (fun h73 => ?_) (fun h73 => ?_)
                ·
                  exact gm_vret rfl d_X8_init_97 (Nat.le_of_ble_eq_true rfl) (Nat.le_of_ble_eq_true rfl) (fun h => h)
                ·
                  refine gm_aload_n d_X8_init_76 rfl 1 rfl ?_
                  refine gm_getR F_8_children gw_222 d_X8_init_77 (fun v70 _ => ?_)
                  refine gm_iload_n d_X8_init_80 rfl 0 rfl ?_
                  refine gm_new (k0 := 2) (T := gm_T2) (N := 9) rfl gw_117 gw_161 gw_13 (Nat.le_of_ble_eq_true rfl) (Nat.le_of_ble_eq_true rfl) d_X8_init_81 (fun q71 m72 _ _ => ?_)
                  refine gm_dup d_X8_init_84 rfl ?_
                  refine gm_iload_n d_X8_init_85 rfl 0 rfl ?_
                  refine gm_aload_n d_X8_init_86 rfl 2 rfl ?_
                  refine gm_grd (fun g87 => ?_)
                  refine gm_callI [.int ((((((((0 : Int32) + (1 : Int32)) + (1 : Int32)) + (1 : Int32)) + (1 : Int32)) + (1 : Int32)) + (1 : Int32)) + (1 : Int32)), .ref a1] (c_X2_init q71 ((((((((0 : Int32) + (1 : Int32)) + (1 : Int32)) + (1 : Int32)) + (1 : Int32)) + (1 : Int32)) + (1 : Int32)) + (1 : Int32)) a1 m72) g87 rfl B_X2_init gw_162 rfl rfl rfl d_X8_init_87 (gm_kV (fun m73 => ?_))
                  refine gm_aast (Or.inr ⟨rfl, rfl⟩) Sub_4 d_X8_init_90 (fun m75 _ => ?_)
                  refine gm_iinc (v := ((((((((0 : Int32) + (1 : Int32)) + (1 : Int32)) + (1 : Int32)) + (1 : Int32)) + (1 : Int32)) + (1 : Int32)) + (1 : Int32)) + (1 : Int32)) (L' := [(2, .int (((((((((0 : Int32) + (1 : Int32)) + (1 : Int32)) + (1 : Int32)) + (1 : Int32)) + (1 : Int32)) + (1 : Int32)) + (1 : Int32)) + (1 : Int32))), (0, .ref a0), (1, .ref a1)]) d_X8_init_91 0 rfl rfl (Nat.le_of_ble_eq_true rfl) rfl ?_
                  refine gm_goto (tgt := 71) d_X8_init_94 (by decide) ?_
                  exact gm_no
theorem d_X11_init_0 : decode prog_1_method_1_code 0 = .ok (.aload_n 0, 1) := by decide +kernel
theorem d_X11_init_1 : decode prog_1_method_1_code 1 = .ok (.invokespecial 3, 3) := by decide +kernel
theorem d_X11_init_4 : decode prog_1_method_1_code 4 = .ok (.aload_n 0, 1) := by decide +kernel
theorem d_X11_init_5 : decode prog_1_method_1_code 5 = .ok (.bipush 7, 2) := by decide +kernel
theorem d_X11_init_7 : decode prog_1_method_1_code 7 = .ok (.anewarray 11, 3) := by decide +kernel
theorem d_X11_init_10 : decode prog_1_method_1_code 10 = .ok (.putfield 13, 3) := by decide +kernel
theorem d_X11_init_13 : decode prog_1_method_1_code 13 = .ok (.aload_n 0, 1) := by decide +kernel
theorem d_X11_init_14 : decode prog_1_method_1_code 14 = .ok (.new 17, 3) := by decide +kernel
theorem d_X11_init_17 : decode prog_1_method_1_code 17 = .ok (.dup, 1) := by decide +kernel
theorem d_X11_init_18 : decode prog_1_method_1_code 18 = .ok (.bipush 20, 2) := by decide +kernel
theorem d_X11_init_20 : decode prog_1_method_1_code 20 = .ok (.invokespecial 19, 3) := by decide +kernel
theorem d_X11_init_23 : decode prog_1_method_1_code 23 = .ok (.putfield 22, 3) := by decide +kernel
theorem d_X11_init_26 : decode prog_1_method_1_code 26 = .ok (.aload_n 0, 1) := by decide +kernel
theorem d_X11_init_27 : decode prog_1_method_1_code 27 = .ok (.bipush 25, 2) := by decide +kernel
theorem d_X11_init_29 : decode prog_1_method_1_code 29 = .ok (.newarray .int, 2) := by decide +kernel
theorem d_X11_init_31 : decode prog_1_method_1_code 31 = .ok (.putfield 26, 3) := by decide +kernel
theorem d_X11_init_34 : decode prog_1_method_1_code 34 = .ok (.aload_n 0, 1) := by decide +kernel
theorem d_X11_init_35 : decode prog_1_method_1_code 35 = .ok (.iconst 5, 1) := by decide +kernel
theorem d_X11_init_36 : decode prog_1_method_1_code 36 = .ok (.newarray .int, 2) := by decide +kernel
theorem d_X11_init_38 : decode prog_1_method_1_code 38 = .ok (.putfield 30, 3) := by decide +kernel
theorem d_X11_init_41 : decode prog_1_method_1_code 41 = .ok (.aload_n 0, 1) := by decide +kernel
theorem d_X11_init_42 : decode prog_1_method_1_code 42 = .ok (.iconst 5, 1) := by decide +kernel
theorem d_X11_init_43 : decode prog_1_method_1_code 43 = .ok (.newarray .int, 2) := by decide +kernel
theorem d_X11_init_45 : decode prog_1_method_1_code 45 = .ok (.putfield 33, 3) := by decide +kernel
theorem d_X11_init_48 : decode prog_1_method_1_code 48 = .ok (.new 11, 3) := by decide +kernel
theorem d_X11_init_51 : decode prog_1_method_1_code 51 = .ok (.dup, 1) := by decide +kernel
theorem d_X11_init_52 : decode prog_1_method_1_code 52 = .ok (.iconst 0, 1) := by decide +kernel
theorem d_X11_init_53 : decode prog_1_method_1_code 53 = .ok (.invokespecial 36, 3) := by decide +kernel
theorem d_X11_init_56 : decode prog_1_method_1_code 56 = .ok (.astore_n 1, 1) := by decide +kernel
theorem d_X11_init_57 : decode prog_1_method_1_code 57 = .ok (.aload_n 0, 1) := by decide +kernel
theorem d_X11_init_58 : decode prog_1_method_1_code 58 = .ok (.getfield 13, 3) := by decide +kernel
theorem d_X11_init_61 : decode prog_1_method_1_code 61 = .ok (.iconst 0, 1) := by decide +kernel
theorem d_X11_init_62 : decode prog_1_method_1_code 62 = .ok (.aload_n 1, 1) := by decide +kernel
theorem d_X11_init_63 : decode prog_1_method_1_code 63 = .ok (.aastore, 1) := by decide +kernel
theorem d_X11_init_64 : decode prog_1_method_1_code 64 = .ok (.aload_n 0, 1) := by decide +kernel
theorem d_X11_init_65 : decode prog_1_method_1_code 65 = .ok (.getfield 13, 3) := by decide +kernel
theorem d_X11_init_68 : decode prog_1_method_1_code 68 = .ok (.iconst 1, 1) := by decide +kernel
theorem d_X11_init_69 : decode prog_1_method_1_code 69 = .ok (.new 37, 3) := by decide +kernel
theorem d_X11_init_72 : decode prog_1_method_1_code 72 = .ok (.dup, 1) := by decide +kernel
theorem d_X11_init_73 : decode prog_1_method_1_code 73 = .ok (.iconst 1, 1) := by decide +kernel
theorem d_X11_init_74 : decode prog_1_method_1_code 74 = .ok (.invokespecial 39, 3) := by decide +kernel
theorem d_X11_init_77 : decode prog_1_method_1_code 77 = .ok (.aastore, 1) := by decide +kernel
theorem d_X11_init_78 : decode prog_1_method_1_code 78 = .ok (.aload_n 0, 1) := by decide +kernel
theorem d_X11_init_79 : decode prog_1_method_1_code 79 = .ok (.getfield 13, 3) := by decide +kernel
theorem d_X11_init_82 : decode prog_1_method_1_code 82 = .ok (.iconst 2, 1) := by decide +kernel
theorem d_X11_init_83 : decode prog_1_method_1_code 83 = .ok (.new 40, 3) := by decide +kernel
theorem d_X11_init_86 : decode prog_1_method_1_code 86 = .ok (.dup, 1) := by decide +kernel
theorem d_X11_init_87 : decode prog_1_method_1_code 87 = .ok (.iconst 2, 1) := by decide +kernel
theorem d_X11_init_88 : decode prog_1_method_1_code 88 = .ok (.invokespecial 42, 3) := by decide +kernel
theorem d_X11_init_91 : decode prog_1_method_1_code 91 = .ok (.aastore, 1) := by decide +kernel
theorem d_X11_init_92 : decode prog_1_method_1_code 92 = .ok (.aload_n 0, 1) := by decide +kernel
theorem d_X11_init_93 : decode prog_1_method_1_code 93 = .ok (.getfield 13, 3) := by decide +kernel
theorem d_X11_init_96 : decode prog_1_method_1_code 96 = .ok (.iconst 3, 1) := by decide +kernel
theorem d_X11_init_97 : decode prog_1_method_1_code 97 = .ok (.new 43, 3) := by decide +kernel
theorem d_X11_init_100 : decode prog_1_method_1_code 100 = .ok (.dup, 1) := by decide +kernel
theorem d_X11_init_101 : decode prog_1_method_1_code 101 = .ok (.iconst 3, 1) := by decide +kernel
theorem d_X11_init_102 : decode prog_1_method_1_code 102 = .ok (.invokespecial 45, 3) := by decide +kernel
theorem d_X11_init_105 : decode prog_1_method_1_code 105 = .ok (.aastore, 1) := by decide +kernel
theorem d_X11_init_106 : decode prog_1_method_1_code 106 = .ok (.aload_n 0, 1) := by decide +kernel
theorem d_X11_init_107 : decode prog_1_method_1_code 107 = .ok (.getfield 13, 3) := by decide +kernel
theorem d_X11_init_110 : decode prog_1_method_1_code 110 = .ok (.iconst 4, 1) := by decide +kernel
theorem d_X11_init_111 : decode prog_1_method_1_code 111 = .ok (.new 46, 3) := by decide +kernel
theorem d_X11_init_114 : decode prog_1_method_1_code 114 = .ok (.dup, 1) := by decide +kernel
theorem d_X11_init_115 : decode prog_1_method_1_code 115 = .ok (.iconst 4, 1) := by decide +kernel
theorem d_X11_init_116 : decode prog_1_method_1_code 116 = .ok (.invokespecial 48, 3) := by decide +kernel
theorem d_X11_init_119 : decode prog_1_method_1_code 119 = .ok (.aastore, 1) := by decide +kernel
theorem d_X11_init_120 : decode prog_1_method_1_code 120 = .ok (.aload_n 0, 1) := by decide +kernel
theorem d_X11_init_121 : decode prog_1_method_1_code 121 = .ok (.getfield 13, 3) := by decide +kernel
theorem d_X11_init_124 : decode prog_1_method_1_code 124 = .ok (.iconst 5, 1) := by decide +kernel
theorem d_X11_init_125 : decode prog_1_method_1_code 125 = .ok (.new 49, 3) := by decide +kernel
theorem d_X11_init_128 : decode prog_1_method_1_code 128 = .ok (.dup, 1) := by decide +kernel
theorem d_X11_init_129 : decode prog_1_method_1_code 129 = .ok (.iconst 5, 1) := by decide +kernel
theorem d_X11_init_130 : decode prog_1_method_1_code 130 = .ok (.invokespecial 51, 3) := by decide +kernel
theorem d_X11_init_133 : decode prog_1_method_1_code 133 = .ok (.aastore, 1) := by decide +kernel
theorem d_X11_init_134 : decode prog_1_method_1_code 134 = .ok (.aload_n 0, 1) := by decide +kernel
theorem d_X11_init_135 : decode prog_1_method_1_code 135 = .ok (.getfield 13, 3) := by decide +kernel
theorem d_X11_init_138 : decode prog_1_method_1_code 138 = .ok (.bipush 6, 2) := by decide +kernel
theorem d_X11_init_140 : decode prog_1_method_1_code 140 = .ok (.new 52, 3) := by decide +kernel
theorem d_X11_init_143 : decode prog_1_method_1_code 143 = .ok (.dup, 1) := by decide +kernel
theorem d_X11_init_144 : decode prog_1_method_1_code 144 = .ok (.bipush 6, 2) := by decide +kernel
theorem d_X11_init_146 : decode prog_1_method_1_code 146 = .ok (.invokespecial 54, 3) := by decide +kernel
theorem d_X11_init_149 : decode prog_1_method_1_code 149 = .ok (.aastore, 1) := by decide +kernel
theorem d_X11_init_150 : decode prog_1_method_1_code 150 = .ok (.aload_n 0, 1) := by decide +kernel
theorem d_X11_init_151 : decode prog_1_method_1_code 151 = .ok (.new 55, 3) := by decide +kernel
theorem d_X11_init_154 : decode prog_1_method_1_code 154 = .ok (.dup, 1) := by decide +kernel
theorem d_X11_init_155 : decode prog_1_method_1_code 155 = .ok (.aload_n 1, 1) := by decide +kernel
theorem d_X11_init_156 : decode prog_1_method_1_code 156 = .ok (.invokespecial 57, 3) := by decide +kernel
theorem d_X11_init_159 : decode prog_1_method_1_code 159 = .ok (.putfield 60, 3) := by decide +kernel
theorem d_X11_init_162 : decode prog_1_method_1_code 162 = .ok (.aload_n 0, 1) := by decide +kernel
theorem d_X11_init_163 : decode prog_1_method_1_code 163 = .ok (.new 55, 3) := by decide +kernel
theorem d_X11_init_166 : decode prog_1_method_1_code 166 = .ok (.dup, 1) := by decide +kernel
theorem d_X11_init_167 : decode prog_1_method_1_code 167 = .ok (.aload_n 1, 1) := by decide +kernel
theorem d_X11_init_168 : decode prog_1_method_1_code 168 = .ok (.invokespecial 57, 3) := by decide +kernel
theorem d_X11_init_171 : decode prog_1_method_1_code 171 = .ok (.putfield 64, 3) := by decide +kernel
theorem d_X11_init_174 : decode prog_1_method_1_code 174 = .ok (.aload_n 0, 1) := by decide +kernel
theorem d_X11_init_175 : decode prog_1_method_1_code 175 = .ok (.new 67, 3) := by decide +kernel
theorem d_X11_init_178 : decode prog_1_method_1_code 178 = .ok (.dup, 1) := by decide +kernel
theorem d_X11_init_179 : decode prog_1_method_1_code 179 = .ok (.iconst 0, 1) := by decide +kernel
theorem d_X11_init_180 : decode prog_1_method_1_code 180 = .ok (.aload_n 1, 1) := by decide +kernel
theorem d_X11_init_181 : decode prog_1_method_1_code 181 = .ok (.invokespecial 69, 3) := by decide +kernel
theorem d_X11_init_184 : decode prog_1_method_1_code 184 = .ok (.putfield 72, 3) := by decide +kernel
theorem d_X11_init_187 : decode prog_1_method_1_code 187 = .ok (.return_, 1) := by decide +kernel
def f_X11_init (a0 : Nat) (μ : gm_M) : Option (Option Value × gm_M) := if gm_tag μ a0 ≠ 0 then gm_nA μ 3 (7 : Int32) 7 (fun q2 m3 => gm_pR m3 [16] a0 0 q2 (fun m4 => gm_mk m4 12 3 (fun q5 m6 => if gm_tag m6 q5 ≠ 0 then gm_bV (f_X7_init q5 (20 : Int32) m6) (fun m7 => gm_pR m7 [16] a0 4 q5 (fun m9 => gm_nA m9 1 (25 : Int32) 25 (fun q10 m11 => gm_pR m11 [16] a0 6 q10 (fun m12 => gm_nA m12 1 (5 : Int32) 5 (fun q13 m14 => gm_pR m14 [16] a0 7 q13 (fun m15 => gm_nA m15 1 (5 : Int32) 5 (fun q16 m17 => gm_pR m17 [16] a0 8 q16 (fun m18 => gm_mk m18 10 1 (fun q19 m20 => if gm_tag m20 q19 ≠ 0 then gm_bV (f_X5_init q19 (0 : Int32) m20) (fun m21 => gm_gR m21 [16] a0 0 (fun v23 => gm_sR m21 3 [10, 11, 14, 8, 9, 6, 15] v23 (0 : Int32) q19 (fun m24 => gm_gR m24 [16] a0 0 (fun v25 => gm_mk m24 11 1 (fun q26 m27 => if gm_tag m27 q26 ≠ 0 then gm_bV (f_X6_init q26 (1 : Int32) m27) (fun m28 => gm_sR m28 3 [10, 11, 14, 8, 9, 6, 15] v25 (1 : Int32) q26 (fun m30 => gm_gR m30 [16] a0 0 (fun v31 => gm_mk m30 14 1 (fun q32 m33 => if gm_tag m33 q32 ≠ 0 then gm_bV (f_X9_init q32 (2 : Int32) m33) (fun m34 => gm_sR m34 3 [10, 11, 14, 8, 9, 6, 15] v31 (2 : Int32) q32 (fun m36 => gm_gR m36 [16] a0 0 (fun v37 => gm_mk m36 8 1 (fun q38 m39 => if gm_tag m39 q38 ≠ 0 then gm_bV (f_X3_init q38 (3 : Int32) m39) (fun m40 => gm_sR m40 3 [10, 11, 14, 8, 9, 6, 15] v37 (3 : Int32) q38 (fun m42 => gm_gR m42 [16] a0 0 (fun v43 => gm_mk m42 9 1 (fun q44 m45 => if gm_tag m45 q44 ≠ 0 then gm_bV (f_X4_init q44 (4 : Int32) m45) (fun m46 => gm_sR m46 3 [10, 11, 14, 8, 9, 6, 15] v43 (4 : Int32) q44 (fun m48 => gm_gR m48 [16] a0 0 (fun v49 => gm_mk m48 6 1 (fun q50 m51 => if gm_tag m51 q50 ≠ 0 then gm_bV (f_X1_init q50 (5 : Int32) m51) (fun m52 => gm_sR m52 3 [10, 11, 14, 8, 9, 6, 15] v49 (5 : Int32) q50 (fun m54 => gm_gR m54 [16] a0 0 (fun v55 => gm_mk m54 15 1 (fun q56 m57 => if gm_tag m57 q56 ≠ 0 then gm_bV (f_X10_init q56 (6 : Int32) m57) (fun m58 => gm_sR m58 3 [10, 11, 14, 8, 9, 6, 15] v55 (6 : Int32) q56 (fun m60 => gm_mk m60 13 10 (fun q61 m62 => if gm_tag m62 q61 ≠ 0 then gm_bV (f_X8_init q61 q19 m62) (fun m63 => gm_pR m63 [16] a0 1 q61 (fun m65 => gm_mk m65 13 10 (fun q66 m67 => if gm_tag m67 q66 ≠ 0 then gm_bV (f_X8_init q66 q19 m67) (fun m68 => gm_pR m68 [16] a0 2 q66 (fun m70 => gm_mk m70 7 9 (fun q71 m72 => if gm_tag m72 q71 ≠ 0 then gm_bV (f_X2_init q71 (0 : Int32) q19 m72) (fun m73 => gm_pR m73 [16] a0 5 q71 (fun m75 => some (none, m75))) else none))) else none))) else none))) else none)))) else none)))) else none)))) else none)))) else none)))) else none))))) else none))))))))) else none))) else none
set_option maxHeartbeats 4000000 in
theorem c_X11_init (a0 : Nat) (μ : gm_M) : gm_Call ({ cls := "GumBubble", name := "<init>", desc := "()V" } : Jvm.MethodName) prog_1_method_1_code 2 none 4 75 1201 [.ref a0] μ (f_X11_init a0 μ) := by
  refine gm_start PN_11 (Nat.le_of_ble_eq_true rfl) (fun res μe => ?_)
  unfold f_X11_init
  show gm_A "GumBubble" (gm_nm "<init>") _ _ _ _ _ _ _ _ _ 0 [(0, .ref a0)] [] _ _
  refine gm_aload_n d_X11_init_0 rfl 0 rfl ?_
  refine gm_grd (fun g1 => ?_)
  refine gm_obj g1 gw_26 gw_27 gw_28 (Nat.le_of_ble_eq_true rfl) (Nat.le_of_ble_eq_true rfl) rfl d_X11_init_1 ?_
  refine gm_aload_n d_X11_init_4 rfl 0 rfl ?_
  refine gm_bipush (v := 7) d_X11_init_5 (by decide) ?_
  refine gm_anewA (t := 3) (B := 7) (Or.inl ⟨rfl, rfl⟩) (Nat.le_of_ble_eq_true rfl) gw_29 (Nat.le_of_ble_eq_true rfl) (Nat.le_of_ble_eq_true rfl) d_X11_init_7 (fun q2 m3 _ _ => ?_)
  refine gm_putR F_11_kinds (Or.inr ⟨rfl, rfl⟩) gw_261 d_X11_init_10 (fun m4 _ => ?_)
  refine gm_aload_n d_X11_init_13 rfl 0 rfl ?_
  refine gm_new (k0 := 7) (T := gm_T7) (N := 3) rfl gw_31 gw_32 gw_2 (Nat.le_of_ble_eq_true rfl) (Nat.le_of_ble_eq_true rfl) d_X11_init_14 (fun q5 m6 _ _ => ?_)
  refine gm_dup d_X11_init_17 rfl ?_
  refine gm_bipush (v := 20) d_X11_init_18 (by decide) ?_
  refine gm_grd (fun g20 => ?_)
  refine gm_callI [.int (20 : Int32)] (c_X7_init q5 (20 : Int32) m6) g20 rfl B_X7_init gw_33 rfl rfl rfl d_X11_init_20 (gm_kV (fun m7 => ?_))
  refine gm_putR F_11_trace (Or.inr ⟨rfl, rfl⟩) gw_265 d_X11_init_23 (fun m9 _ => ?_)
  refine gm_aload_n d_X11_init_26 rfl 0 rfl ?_
  refine gm_bipush (v := 25) d_X11_init_27 (by decide) ?_
  refine gm_newaI (B := 25) (Nat.le_of_ble_eq_true rfl) gw_51 (Nat.le_of_ble_eq_true rfl) (Nat.le_of_ble_eq_true rfl) d_X11_init_29 (fun q10 m11 _ _ => ?_)
  refine gm_putR F_11_behind (Or.inr ⟨rfl, rfl⟩) gw_267 d_X11_init_31 (fun m12 _ => ?_)
  refine gm_aload_n d_X11_init_34 rfl 0 rfl ?_
  refine gm_iconst (v := 5) d_X11_init_35 (by decide) ?_
  refine gm_newaI (B := 5) (Nat.le_of_ble_eq_true rfl) gw_51 (Nat.le_of_ble_eq_true rfl) (Nat.le_of_ble_eq_true rfl) d_X11_init_36 (fun q13 m14 _ _ => ?_)
  refine gm_putR F_11_tried (Or.inr ⟨rfl, rfl⟩) gw_268 d_X11_init_38 (fun m15 _ => ?_)
  refine gm_aload_n d_X11_init_41 rfl 0 rfl ?_
  refine gm_iconst (v := 5) d_X11_init_42 (by decide) ?_
  refine gm_newaI (B := 5) (Nat.le_of_ble_eq_true rfl) gw_51 (Nat.le_of_ble_eq_true rfl) (Nat.le_of_ble_eq_true rfl) d_X11_init_43 (fun q16 m17 _ _ => ?_)
  refine gm_putR F_11_best (Or.inr ⟨rfl, rfl⟩) gw_269 d_X11_init_45 (fun m18 _ => ?_)
  refine gm_new (k0 := 5) (T := gm_T5) (N := 1) rfl gw_29 gw_52 gw_4 (Nat.le_of_ble_eq_true rfl) (Nat.le_of_ble_eq_true rfl) d_X11_init_48 (fun q19 m20 _ _ => ?_)
  refine gm_dup d_X11_init_51 rfl ?_
  refine gm_iconst (v := 0) d_X11_init_52 (by decide) ?_
  refine gm_grd (fun g53 => ?_)
  refine gm_callI [.int (0 : Int32)] (c_X5_init q19 (0 : Int32) m20) g53 rfl B_X5_init gw_53 rfl rfl rfl d_X11_init_53 (gm_kV (fun m21 => ?_))
  refine gm_astore_n (L' := [(1, .ref q19), (0, .ref a0)]) d_X11_init_56 rfl (Nat.le_of_ble_eq_true rfl) rfl ?_
  refine gm_aload_n d_X11_init_57 rfl 1 rfl ?_
  refine gm_getR F_11_kinds gw_261 d_X11_init_58 (fun v23 _ => ?_)
  refine gm_iconst (v := 0) d_X11_init_61 (by decide) ?_
  refine gm_aload_n d_X11_init_62 rfl 0 rfl ?_
  refine gm_aast (Or.inl ⟨rfl, rfl⟩) Sub_3 d_X11_init_63 (fun m24 _ => ?_)
  refine gm_aload_n d_X11_init_64 rfl 1 rfl ?_
  refine gm_getR F_11_kinds gw_261 d_X11_init_65 (fun v25 _ => ?_)
  refine gm_iconst (v := 1) d_X11_init_68 (by decide) ?_
  refine gm_new (k0 := 6) (T := gm_T6) (N := 1) rfl gw_63 gw_64 gw_5 (Nat.le_of_ble_eq_true rfl) (Nat.le_of_ble_eq_true rfl) d_X11_init_69 (fun q26 m27 _ _ => ?_)
  refine gm_dup d_X11_init_72 rfl ?_
  refine gm_iconst (v := 1) d_X11_init_73 (by decide) ?_
  refine gm_grd (fun g74 => ?_)
  refine gm_callI [.int (1 : Int32)] (c_X6_init q26 (1 : Int32) m27) g74 rfl B_X6_init gw_65 rfl rfl rfl d_X11_init_74 (gm_kV (fun m28 => ?_))
  refine gm_aast (Or.inl ⟨rfl, rfl⟩) Sub_3 d_X11_init_77 (fun m30 _ => ?_)
  refine gm_aload_n d_X11_init_78 rfl 1 rfl ?_
  refine gm_getR F_11_kinds gw_261 d_X11_init_79 (fun v31 _ => ?_)
  refine gm_iconst (v := 2) d_X11_init_82 (by decide) ?_
  refine gm_new (k0 := 9) (T := gm_T9) (N := 1) rfl gw_71 gw_72 gw_6 (Nat.le_of_ble_eq_true rfl) (Nat.le_of_ble_eq_true rfl) d_X11_init_83 (fun q32 m33 _ _ => ?_)
  refine gm_dup d_X11_init_86 rfl ?_
  refine gm_iconst (v := 2) d_X11_init_87 (by decide) ?_
  refine gm_grd (fun g88 => ?_)
  refine gm_callI [.int (2 : Int32)] (c_X9_init q32 (2 : Int32) m33) g88 rfl B_X9_init gw_73 rfl rfl rfl d_X11_init_88 (gm_kV (fun m34 => ?_))
  refine gm_aast (Or.inl ⟨rfl, rfl⟩) Sub_3 d_X11_init_91 (fun m36 _ => ?_)
  refine gm_aload_n d_X11_init_92 rfl 1 rfl ?_
  refine gm_getR F_11_kinds gw_261 d_X11_init_93 (fun v37 _ => ?_)
  refine gm_iconst (v := 3) d_X11_init_96 (by decide) ?_
  refine gm_new (k0 := 3) (T := gm_T3) (N := 1) rfl gw_79 gw_80 gw_7 (Nat.le_of_ble_eq_true rfl) (Nat.le_of_ble_eq_true rfl) d_X11_init_97 (fun q38 m39 _ _ => ?_)
  refine gm_dup d_X11_init_100 rfl ?_
  refine gm_iconst (v := 3) d_X11_init_101 (by decide) ?_
  refine gm_grd (fun g102 => ?_)
  refine gm_callI [.int (3 : Int32)] (c_X3_init q38 (3 : Int32) m39) g102 rfl B_X3_init gw_81 rfl rfl rfl d_X11_init_102 (gm_kV (fun m40 => ?_))
  refine gm_aast (Or.inl ⟨rfl, rfl⟩) Sub_3 d_X11_init_105 (fun m42 _ => ?_)
  refine gm_aload_n d_X11_init_106 rfl 1 rfl ?_
  refine gm_getR F_11_kinds gw_261 d_X11_init_107 (fun v43 _ => ?_)
  refine gm_iconst (v := 4) d_X11_init_110 (by decide) ?_
  refine gm_new (k0 := 4) (T := gm_T4) (N := 1) rfl gw_87 gw_88 gw_8 (Nat.le_of_ble_eq_true rfl) (Nat.le_of_ble_eq_true rfl) d_X11_init_111 (fun q44 m45 _ _ => ?_)
  refine gm_dup d_X11_init_114 rfl ?_
  refine gm_iconst (v := 4) d_X11_init_115 (by decide) ?_
  refine gm_grd (fun g116 => ?_)
  refine gm_callI [.int (4 : Int32)] (c_X4_init q44 (4 : Int32) m45) g116 rfl B_X4_init gw_89 rfl rfl rfl d_X11_init_116 (gm_kV (fun m46 => ?_))
  refine gm_aast (Or.inl ⟨rfl, rfl⟩) Sub_3 d_X11_init_119 (fun m48 _ => ?_)
  refine gm_aload_n d_X11_init_120 rfl 1 rfl ?_
  refine gm_getR F_11_kinds gw_261 d_X11_init_121 (fun v49 _ => ?_)
  refine gm_iconst (v := 5) d_X11_init_124 (by decide) ?_
  refine gm_new (k0 := 1) (T := gm_T1) (N := 1) rfl gw_95 gw_96 gw_9 (Nat.le_of_ble_eq_true rfl) (Nat.le_of_ble_eq_true rfl) d_X11_init_125 (fun q50 m51 _ _ => ?_)
  refine gm_dup d_X11_init_128 rfl ?_
  refine gm_iconst (v := 5) d_X11_init_129 (by decide) ?_
  refine gm_grd (fun g130 => ?_)
  refine gm_callI [.int (5 : Int32)] (c_X1_init q50 (5 : Int32) m51) g130 rfl B_X1_init gw_97 rfl rfl rfl d_X11_init_130 (gm_kV (fun m52 => ?_))
  refine gm_aast (Or.inl ⟨rfl, rfl⟩) Sub_3 d_X11_init_133 (fun m54 _ => ?_)
  refine gm_aload_n d_X11_init_134 rfl 1 rfl ?_
  refine gm_getR F_11_kinds gw_261 d_X11_init_135 (fun v55 _ => ?_)
  refine gm_bipush (v := 6) d_X11_init_138 (by decide) ?_
  refine gm_new (k0 := 10) (T := gm_T10) (N := 1) rfl gw_103 gw_104 gw_10 (Nat.le_of_ble_eq_true rfl) (Nat.le_of_ble_eq_true rfl) d_X11_init_140 (fun q56 m57 _ _ => ?_)
  refine gm_dup d_X11_init_143 rfl ?_
  refine gm_bipush (v := 6) d_X11_init_144 (by decide) ?_
  refine gm_grd (fun g146 => ?_)
  refine gm_callI [.int (6 : Int32)] (c_X10_init q56 (6 : Int32) m57) g146 rfl B_X10_init gw_105 rfl rfl rfl d_X11_init_146 (gm_kV (fun m58 => ?_))
  refine gm_aast (Or.inl ⟨rfl, rfl⟩) Sub_3 d_X11_init_149 (fun m60 _ => ?_)
  refine gm_aload_n d_X11_init_150 rfl 1 rfl ?_
  refine gm_new (k0 := 8) (T := gm_T8) (N := 10) rfl gw_111 gw_112 gw_11 (Nat.le_of_ble_eq_true rfl) (Nat.le_of_ble_eq_true rfl) d_X11_init_151 (fun q61 m62 _ _ => ?_)
  refine gm_dup d_X11_init_154 rfl ?_
  refine gm_aload_n d_X11_init_155 rfl 0 rfl ?_
  refine gm_grd (fun g156 => ?_)
  refine gm_callI [.ref q19] (c_X8_init q61 q19 m62) g156 rfl B_X8_init gw_113 rfl rfl rfl d_X11_init_156 (gm_kV (fun m63 => ?_))
  refine gm_putR F_11_now (Or.inr ⟨rfl, rfl⟩) gw_262 d_X11_init_159 (fun m65 _ => ?_)
  refine gm_aload_n d_X11_init_162 rfl 1 rfl ?_
  refine gm_new (k0 := 8) (T := gm_T8) (N := 10) rfl gw_111 gw_112 gw_11 (Nat.le_of_ble_eq_true rfl) (Nat.le_of_ble_eq_true rfl) d_X11_init_163 (fun q66 m67 _ _ => ?_)
  refine gm_dup d_X11_init_166 rfl ?_
  refine gm_aload_n d_X11_init_167 rfl 0 rfl ?_
  refine gm_grd (fun g168 => ?_)
  refine gm_callI [.ref q19] (c_X8_init q66 q19 m67) g168 rfl B_X8_init gw_113 rfl rfl rfl d_X11_init_168 (gm_kV (fun m68 => ?_))
  refine gm_putR F_11_kept (Or.inr ⟨rfl, rfl⟩) gw_263 d_X11_init_171 (fun m70 _ => ?_)
  refine gm_aload_n d_X11_init_174 rfl 1 rfl ?_
  refine gm_new (k0 := 2) (T := gm_T2) (N := 9) rfl gw_259 gw_161 gw_13 (Nat.le_of_ble_eq_true rfl) (Nat.le_of_ble_eq_true rfl) d_X11_init_175 (fun q71 m72 _ _ => ?_)
  refine gm_dup d_X11_init_178 rfl ?_
  refine gm_iconst (v := 0) d_X11_init_179 (by decide) ?_
  refine gm_aload_n d_X11_init_180 rfl 0 rfl ?_
  refine gm_grd (fun g181 => ?_)
  refine gm_callI [.int (0 : Int32), .ref q19] (c_X2_init q71 (0 : Int32) q19 m72) g181 rfl B_X2_init gw_260 rfl rfl rfl d_X11_init_181 (gm_kV (fun m73 => ?_))
  refine gm_putR F_11_trial (Or.inr ⟨rfl, rfl⟩) gw_266 d_X11_init_184 (fun m75 _ => ?_)
  exact gm_vret rfl d_X11_init_187 (Nat.le_of_ble_eq_true rfl) (Nat.le_of_ble_eq_true rfl) (fun h => h)
theorem d_X11_likely_0 : decode prog_1_method_17_code 0 = .ok (.aload_n 0, 1) := by decide +kernel
theorem d_X11_likely_1 : decode prog_1_method_17_code 1 = .ok (.iload_n 1, 1) := by decide +kernel
theorem d_X11_likely_2 : decode prog_1_method_17_code 2 = .ok (.invokevirtual 115, 3) := by decide +kernel
theorem d_X11_likely_5 : decode prog_1_method_17_code 5 = .ok (.ifCond .ne 23, 3) := by decide +kernel
theorem d_X11_likely_8 : decode prog_1_method_17_code 8 = .ok (.iload_n 2, 1) := by decide +kernel
theorem d_X11_likely_9 : decode prog_1_method_17_code 9 = .ok (.iconst 0, 1) := by decide +kernel
theorem d_X11_likely_10 : decode prog_1_method_17_code 10 = .ok (.sipush 999, 3) := by decide +kernel
theorem d_X11_likely_13 : decode prog_1_method_17_code 13 = .ok (.invokestatic 76, 3) := by decide +kernel
theorem d_X11_likely_16 : decode prog_1_method_17_code 16 = .ok (.ifCond .ne 12, 3) := by decide +kernel
theorem d_X11_likely_19 : decode prog_1_method_17_code 19 = .ok (.iload_n 3, 1) := by decide +kernel
theorem d_X11_likely_20 : decode prog_1_method_17_code 20 = .ok (.iconst 0, 1) := by decide +kernel
theorem d_X11_likely_21 : decode prog_1_method_17_code 21 = .ok (.iconst 1, 1) := by decide +kernel
theorem d_X11_likely_22 : decode prog_1_method_17_code 22 = .ok (.invokestatic 76, 3) := by decide +kernel
theorem d_X11_likely_25 : decode prog_1_method_17_code 25 = .ok (.ifCond .eq 7, 3) := by decide +kernel
theorem d_X11_likely_28 : decode prog_1_method_17_code 28 = .ok (.ldc2_w 202, 3) := by decide +kernel
theorem d_X11_likely_31 : decode prog_1_method_17_code 31 = .ok (.lreturn, 1) := by decide +kernel
theorem d_X11_likely_32 : decode prog_1_method_17_code 32 = .ok (.aload_n 0, 1) := by decide +kernel
theorem d_X11_likely_33 : decode prog_1_method_17_code 33 = .ok (.iload_n 1, 1) := by decide +kernel
theorem d_X11_likely_34 : decode prog_1_method_17_code 34 = .ok (.invokevirtual 158, 3) := by decide +kernel
theorem d_X11_likely_37 : decode prog_1_method_17_code 37 = .ok (.iload_n 2, 1) := by decide +kernel
theorem d_X11_likely_38 : decode prog_1_method_17_code 38 = .ok (.invokestatic 204, 3) := by decide +kernel
theorem d_X11_likely_41 : decode prog_1_method_17_code 41 = .ok (.bipush 10, 2) := by decide +kernel
theorem d_X11_likely_43 : decode prog_1_method_17_code 43 = .ok (.iload_n 3, 1) := by decide +kernel
theorem d_X11_likely_44 : decode prog_1_method_17_code 44 = .ok (.invokestatic 207, 3) := by decide +kernel
theorem d_X11_likely_47 : decode prog_1_method_17_code 47 = .ok (.lreturn, 1) := by decide +kernel
def f_X11_likely (a0 : Nat) (a1 : Int32) (a2 : Int32) (a3 : Int32) (μ : gm_M) : Option (Option Value × gm_M) := if gm_tag μ a0 = 16 then gm_bI (f_X11_isNobody a0 a1 μ) (fun x2 m1 => gm_j (fun (s3 : gm_M) => some (some (.long (-9223372036854775808 : Int64)), s3)) (fun j4 => if x2 ≠ 0 then j4 m1 else gm_bI (f_X11_isOutside a2 (0 : Int32) (999 : Int32) m1) (fun x6 m5 => if x6 ≠ 0 then j4 m5 else gm_bI (f_X11_isOutside a3 (0 : Int32) (1 : Int32) m5) (fun x8 m7 => if x8 = 0 then if gm_tag m7 a0 = 16 then gm_bI (f_X11_holdsNow a0 a1 m7) (fun x10 m9 => gm_bI (f_X11_thinsBearing x10 a2 m9) (fun x12 m11 => gm_bL (f_X11_fraction x12 (10 : Int32) a3 m11) (fun x14 m13 => some (some (.long x14), m13)))) else none else j4 m7)))) else none
set_option maxHeartbeats 4000000 in
theorem c_X11_likely (a0 : Nat) (a1 : Int32) (a2 : Int32) (a3 : Int32) (μ : gm_M) : gm_Call ({ cls := "GumBubble", name := "likely", desc := "(III)J" } : Jvm.MethodName) prog_1_method_17_code 4 (some .long) 5 0 0 [.ref a0, .int a1, .int a2, .int a3] μ (f_X11_likely a0 a1 a2 a3 μ) := by
  refine gm_start PN_11 (Nat.le_of_ble_eq_true rfl) (fun res μe => ?_)
  unfold f_X11_likely
  show gm_A "GumBubble" (gm_nm "likely") _ _ _ _ _ _ _ _ _ 0 [(0, .ref a0), (1, .int a1), (2, .int a2), (3, .int a3)] [] _ _
  refine gm_aload_n d_X11_likely_0 rfl 0 rfl ?_
  refine gm_iload_n d_X11_likely_1 rfl 1 rfl ?_
  refine gm_grd (fun g2 => ?_)
  refine gm_callV (k0 := 11) [.int a1] (c_X11_isNobody a0 a1 μ) g2 rfl B_X11_isNobody gw_478 gs_11 rfl rfl rfl d_X11_likely_2 (gm_kI (fun x2 m1 => ?_))
  refine gm_join (S := gm_M) (pj := 28) (kj := 0) (nj := 0) (fun s3 => s3) (fun s3 => [(0, .ref a0), (1, .int a1), (2, .int a2), (3, .int a3)]) (fun s3 => []) (fun s3 => ?_) (fun j4 hj4 => ?_)
  ·
    refine gm_ldc2 (v := -9223372036854775808) gw_652 d_X11_likely_28 ?_
    exact gm_lret rfl d_X11_likely_31 (Nat.le_of_ble_eq_true rfl) (Nat.le_of_ble_eq_true rfl) (fun h => h)
  ·
    refine gm_if_ne (tgt := 28) d_X11_likely_5 (by decide) (fun h5 => ?_) (fun h5 => ?_)
    ·
      exact hj4 m1
    ·
      refine gm_iload_n d_X11_likely_8 rfl 2 rfl ?_
      refine gm_iconst (v := 0) d_X11_likely_9 (by decide) ?_
      refine gm_sipush (v := 999) d_X11_likely_10 (by decide) ?_
      refine gm_callS [.int a2, .int (0 : Int32), .int (999 : Int32)] (c_X11_isOutside a2 (0 : Int32) (999 : Int32) m1) B_X11_isOutside gw_296 rfl rfl rfl d_X11_likely_13 (gm_kI (fun x6 m5 => ?_))
      refine gm_if_ne (tgt := 28) d_X11_likely_16 (by decide) (fun h16 => ?_) (fun h16 => ?_)
      ·
        exact hj4 m5
      ·
        refine gm_iload_n d_X11_likely_19 rfl 3 rfl ?_
        refine gm_iconst (v := 0) d_X11_likely_20 (by decide) ?_
        refine gm_iconst (v := 1) d_X11_likely_21 (by decide) ?_
        refine gm_callS [.int a3, .int (0 : Int32), .int (1 : Int32)] (c_X11_isOutside a3 (0 : Int32) (1 : Int32) m5) B_X11_isOutside gw_296 rfl rfl rfl d_X11_likely_22 (gm_kI (fun x8 m7 => ?_))
        refine gm_if_eq (tgt := 32) d_X11_likely_25 (by decide) (fun h25 => ?_) (fun h25 => ?_)
        ·
          refine gm_aload_n d_X11_likely_32 rfl 0 rfl ?_
          refine gm_iload_n d_X11_likely_33 rfl 1 rfl ?_
          refine gm_grd (fun g34 => ?_)
          refine gm_callV (k0 := 11) [.int a1] (c_X11_holdsNow a0 a1 m7) g34 rfl B_X11_holdsNow gw_541 gs_13 rfl rfl rfl d_X11_likely_34 (gm_kI (fun x10 m9 => ?_))
          refine gm_iload_n d_X11_likely_37 rfl 2 rfl ?_
          refine gm_callS [.int x10, .int a2] (c_X11_thinsBearing x10 a2 m9) B_X11_thinsBearing gw_653 rfl rfl rfl d_X11_likely_38 (gm_kI (fun x12 m11 => ?_))
          refine gm_bipush (v := 10) d_X11_likely_41 (by decide) ?_
          refine gm_iload_n d_X11_likely_43 rfl 3 rfl ?_
          refine gm_callS [.int x12, .int (10 : Int32), .int a3] (c_X11_fraction x12 (10 : Int32) a3 m11) B_X11_fraction gw_662 rfl rfl rfl d_X11_likely_44 (gm_kL (fun x14 m13 => ?_))
          exact gm_lret rfl d_X11_likely_47 (Nat.le_of_ble_eq_true rfl) (Nat.le_of_ble_eq_true rfl) (fun h => h)
        ·
          exact hj4 m7
theorem d_X11_looked_0 : decode prog_1_method_32_code 0 = .ok (.iconst 0, 1) := by decide +kernel
theorem d_X11_looked_1 : decode prog_1_method_32_code 1 = .ok (.istore_n 1, 1) := by decide +kernel
theorem d_X11_looked_2 : decode prog_1_method_32_code 2 = .ok (.iload_n 1, 1) := by decide +kernel
theorem d_X11_looked_3 : decode prog_1_method_32_code 3 = .ok (.aload_n 0, 1) := by decide +kernel
theorem d_X11_looked_4 : decode prog_1_method_32_code 4 = .ok (.getfield 60, 3) := by decide +kernel
theorem d_X11_looked_7 : decode prog_1_method_32_code 7 = .ok (.getfield 256, 3) := by decide +kernel
theorem d_X11_looked_10 : decode prog_1_method_32_code 10 = .ok (.getfield 259, 3) := by decide +kernel
theorem d_X11_looked_13 : decode prog_1_method_32_code 13 = .ok (.if_icmp .ge 59, 3) := by decide +kernel
theorem d_X11_looked_16 : decode prog_1_method_32_code 16 = .ok (.aload_n 0, 1) := by decide +kernel
theorem d_X11_looked_17 : decode prog_1_method_32_code 17 = .ok (.getfield 60, 3) := by decide +kernel
theorem d_X11_looked_20 : decode prog_1_method_32_code 20 = .ok (.getfield 256, 3) := by decide +kernel
theorem d_X11_looked_23 : decode prog_1_method_32_code 23 = .ok (.iload_n 1, 1) := by decide +kernel
theorem d_X11_looked_24 : decode prog_1_method_32_code 24 = .ok (.iconst 0, 1) := by decide +kernel
theorem d_X11_looked_25 : decode prog_1_method_32_code 25 = .ok (.invokevirtual 262, 3) := by decide +kernel
theorem d_X11_looked_28 : decode prog_1_method_32_code 28 = .ok (.istore_n 2, 1) := by decide +kernel
theorem d_X11_looked_29 : decode prog_1_method_32_code 29 = .ok (.aload_n 0, 1) := by decide +kernel
theorem d_X11_looked_30 : decode prog_1_method_32_code 30 = .ok (.iload_n 2, 1) := by decide +kernel
theorem d_X11_looked_31 : decode prog_1_method_32_code 31 = .ok (.invokevirtual 115, 3) := by decide +kernel
theorem d_X11_looked_34 : decode prog_1_method_32_code 34 = .ok (.ifCond .ne 32, 3) := by decide +kernel
theorem d_X11_looked_37 : decode prog_1_method_32_code 37 = .ok (.aload_n 0, 1) := by decide +kernel
theorem d_X11_looked_38 : decode prog_1_method_32_code 38 = .ok (.getfield 60, 3) := by decide +kernel
theorem d_X11_looked_41 : decode prog_1_method_32_code 41 = .ok (.getfield 104, 3) := by decide +kernel
theorem d_X11_looked_44 : decode prog_1_method_32_code 44 = .ok (.iload_n 2, 1) := by decide +kernel
theorem d_X11_looked_45 : decode prog_1_method_32_code 45 = .ok (.aaload, 1) := by decide +kernel
theorem d_X11_looked_46 : decode prog_1_method_32_code 46 = .ok (.getfield 138, 3) := by decide +kernel
theorem d_X11_looked_49 : decode prog_1_method_32_code 49 = .ok (.aload_n 0, 1) := by decide +kernel
theorem d_X11_looked_50 : decode prog_1_method_32_code 50 = .ok (.getfield 60, 3) := by decide +kernel
theorem d_X11_looked_53 : decode prog_1_method_32_code 53 = .ok (.getfield 256, 3) := by decide +kernel
theorem d_X11_looked_56 : decode prog_1_method_32_code 56 = .ok (.iload_n 1, 1) := by decide +kernel
theorem d_X11_looked_57 : decode prog_1_method_32_code 57 = .ok (.iconst 1, 1) := by decide +kernel
theorem d_X11_looked_58 : decode prog_1_method_32_code 58 = .ok (.invokevirtual 262, 3) := by decide +kernel
theorem d_X11_looked_61 : decode prog_1_method_32_code 61 = .ok (.if_icmp .eq 5, 3) := by decide +kernel
theorem d_X11_looked_64 : decode prog_1_method_32_code 64 = .ok (.iload_n 1, 1) := by decide +kernel
theorem d_X11_looked_65 : decode prog_1_method_32_code 65 = .ok (.ireturn, 1) := by decide +kernel
theorem d_X11_looked_66 : decode prog_1_method_32_code 66 = .ok (.iinc 1 1, 3) := by decide +kernel
theorem d_X11_looked_69 : decode prog_1_method_32_code 69 = .ok (.goto (-67), 3) := by decide +kernel
theorem d_X11_looked_72 : decode prog_1_method_32_code 72 = .ok (.bipush (-5), 2) := by decide +kernel
theorem d_X11_looked_74 : decode prog_1_method_32_code 74 = .ok (.ireturn, 1) := by decide +kernel
def f_X11_looked (a0 : Nat) (μ : gm_M) : Option (Option Value × gm_M) := gm_loop (fun (s1 : Int32 × gm_M) => gm_gR s1.2 [16] a0 1 (fun v2 => gm_gR s1.2 [13] v2 9 (fun v3 => gm_gI s1.2 [12] v3 2 (fun v4 => if v4 ≤ s1.1 then some (Sum.inr (some (.int (-5 : Int32)), s1.2)) else gm_gR s1.2 [16] a0 1 (fun v5 => gm_gR s1.2 [13] v5 9 (fun v6 => if gm_tag s1.2 v6 = 12 then gm_bI (f_X7_cell v6 s1.1 (0 : Int32) s1.2) (fun x8 m7 => if gm_tag m7 a0 = 16 then gm_bI (f_X11_isNobody a0 x8 m7) (fun x10 m9 => gm_j (fun (s11 : gm_M) => some (Sum.inl ((s1.1 + (1 : Int32)), s11))) (fun j12 => if x10 ≠ 0 then j12 m9 else gm_gR m9 [16] a0 1 (fun v13 => gm_gR m9 [13] v13 2 (fun v14 => gm_aR m9 4 v14 x8 (fun v15 => gm_gI m9 [7] v15 6 (fun v16 => gm_gR m9 [16] a0 1 (fun v17 => gm_gR m9 [13] v17 9 (fun v18 => if gm_tag m9 v18 = 12 then gm_bI (f_X7_cell v18 s1.1 (1 : Int32) m9) (fun x20 m19 => if v16 = x20 then j12 m19 else some (Sum.inr (some (.int s1.1), m19))) else none)))))))) else none) else none)))))) 5000 ((0 : Int32), μ)
set_option maxHeartbeats 4000000 in
theorem c_X11_looked (a0 : Nat) (μ : gm_M) : gm_Call ({ cls := "GumBubble", name := "looked", desc := "()I" } : Jvm.MethodName) prog_1_method_32_code 3 (some .int) 2 0 0 [.ref a0] μ (f_X11_looked a0 μ) := by
  refine gm_start PN_11 (Nat.le_of_ble_eq_true rfl) (fun res μe => ?_)
  unfold f_X11_looked
  show gm_A "GumBubble" (gm_nm "looked") _ _ _ _ _ _ _ _ _ 0 [(0, .ref a0)] [] _ _
  refine gm_iconst (v := 0) d_X11_looked_0 (by decide) ?_
  refine gm_istore_n (L' := [(1, .int (0 : Int32)), (0, .ref a0)]) d_X11_looked_1 rfl (Nat.le_of_ble_eq_true rfl) rfl ?_
  refine gm_sub (L' := [(0, .ref a0), (1, .int (0 : Int32))]) [1, 0] rfl ?_
  refine gm_lp (S := Int32 × gm_M) (fun _ => 0) (fun _ => 0) (fun s1 => s1.2) (fun s1 => [(0, .ref a0), (1, .int s1.1)]) (fun _ => []) (fun s1 => ?_) 5000 ((0 : Int32), μ)
  refine gm_iload_n d_X11_looked_2 rfl 1 rfl ?_
  refine gm_aload_n d_X11_looked_3 rfl 0 rfl ?_
  refine gm_getR F_11_now gw_262 d_X11_looked_4 (fun v2 _ => ?_)
  refine gm_getR F_8_book gw_237 d_X11_looked_7 (fun v3 _ => ?_)
  refine gm_getI F_7_count gw_43 d_X11_looked_10 (fun v4 _ => ?_)
  refine gm_icmp_ge (tgt := 72) d_X11_looked_13 (by decide) (fun h13 => ?_) (fun h13 => ?_)
  ·
    refine gm_bipush (v := -5) d_X11_looked_72 (by decide) ?_
    exact gm_iret rfl d_X11_looked_74 (Nat.le_of_ble_eq_true rfl) (Nat.le_of_ble_eq_true rfl) (fun h => h)
  ·
    refine gm_aload_n d_X11_looked_16 rfl 0 rfl ?_
    refine gm_getR F_11_now gw_262 d_X11_looked_17 (fun v5 _ => ?_)
    refine gm_getR F_8_book gw_237 d_X11_looked_20 (fun v6 _ => ?_)
    refine gm_iload_n d_X11_looked_23 rfl 1 rfl ?_
    refine gm_iconst (v := 0) d_X11_looked_24 (by decide) ?_
    refine gm_grd (fun g25 => ?_)
    refine gm_callV (k0 := 7) [.int s1.1, .int (0 : Int32)] (c_X7_cell v6 s1.1 (0 : Int32) s1.2) g25 rfl B_X7_cell gw_734 gw_736 rfl rfl rfl d_X11_looked_25 (gm_kI (fun x8 m7 => ?_))
    refine gm_istore_n (L' := [(2, .int x8), (0, .ref a0), (1, .int s1.1)]) d_X11_looked_28 rfl (Nat.le_of_ble_eq_true rfl) rfl ?_
    refine gm_aload_n d_X11_looked_29 rfl 1 rfl ?_
    refine gm_iload_n d_X11_looked_30 rfl 0 rfl ?_
    refine gm_grd (fun g31 => ?_)
    refine gm_callV (k0 := 11) [.int x8] (c_X11_isNobody a0 x8 m7) g31 rfl B_X11_isNobody gw_478 gs_11 rfl rfl rfl d_X11_looked_31 (gm_kI (fun x10 m9 => ?_))
    refine gm_join (S := gm_M) (pj := 66) (kj := 0) (nj := 0) (fun s11 => s11) (fun s11 => [(0, .ref a0), (1, .int s1.1), (2, .int x8)]) (fun s11 => []) (fun s11 => ?_) (fun j12 hj12 => ?_)
    ·
      refine gm_iinc (v := s1.1 + (1 : Int32)) (L' := [(1, .int (s1.1 + (1 : Int32))), (0, .ref a0), (2, .int x8)]) d_X11_looked_66 1 rfl rfl (Nat.le_of_ble_eq_true rfl) rfl ?_
      refine gm_goto (tgt := 2) d_X11_looked_69 (by decide) ?_
      refine gm_sub (L' := [(0, .ref a0), (1, .int (s1.1 + (1 : Int32)))]) [1, 0] rfl ?_
      exact gm_back (fun h => h)
    ·
      refine gm_if_ne (tgt := 66) d_X11_looked_34 (by decide) (fun h34 => ?_) (fun h34 => ?_)
      ·
        refine gm_sub (L' := [(0, .ref a0), (1, .int s1.1), (2, .int x8)]) [1, 2, 0] rfl ?_
        exact hj12 m9
      ·
        refine gm_aload_n d_X11_looked_37 rfl 1 rfl ?_
        refine gm_getR F_11_now gw_262 d_X11_looked_38 (fun v13 _ => ?_)
        refine gm_getR F_8_children gw_223 d_X11_looked_41 (fun v14 _ => ?_)
        refine gm_iload_n d_X11_looked_44 rfl 0 rfl ?_
        refine gm_aald (Or.inr rfl) d_X11_looked_45 (fun v15 _ => ?_)
        refine gm_getI F_2_bubble gw_193 d_X11_looked_46 (fun v16 _ => ?_)
        refine gm_aload_n d_X11_looked_49 rfl 1 rfl ?_
        refine gm_getR F_11_now gw_262 d_X11_looked_50 (fun v17 _ => ?_)
        refine gm_getR F_8_book gw_237 d_X11_looked_53 (fun v18 _ => ?_)
        refine gm_iload_n d_X11_looked_56 rfl 2 rfl ?_
        refine gm_iconst (v := 1) d_X11_looked_57 (by decide) ?_
        refine gm_grd (fun g58 => ?_)
        refine gm_callV (k0 := 7) [.int s1.1, .int (1 : Int32)] (c_X7_cell v18 s1.1 (1 : Int32) m9) g58 rfl B_X7_cell gw_734 gw_736 rfl rfl rfl d_X11_looked_58 (gm_kI (fun x20 m19 => ?_))
        refine gm_icmp_eq (tgt := 66) d_X11_looked_61 (by decide) (fun h61 => ?_) (fun h61 => ?_)
        ·
          refine gm_sub (L' := [(0, .ref a0), (1, .int s1.1), (2, .int x8)]) [1, 2, 0] rfl ?_
          exact hj12 m19
        ·
          refine gm_iload_n d_X11_looked_64 rfl 2 rfl ?_
          exact gm_iret rfl d_X11_looked_65 (Nat.le_of_ble_eq_true rfl) (Nat.le_of_ble_eq_true rfl) (fun h => h)
theorem d_X11_sumBehind_0 : decode prog_1_method_45_code 0 = .ok (.iconst 0, 1) := by decide +kernel
theorem d_X11_sumBehind_1 : decode prog_1_method_45_code 1 = .ok (.istore_n 2, 1) := by decide +kernel
theorem d_X11_sumBehind_2 : decode prog_1_method_45_code 2 = .ok (.iconst 0, 1) := by decide +kernel
theorem d_X11_sumBehind_3 : decode prog_1_method_45_code 3 = .ok (.istore_n 3, 1) := by decide +kernel
theorem d_X11_sumBehind_4 : decode prog_1_method_45_code 4 = .ok (.iload_n 3, 1) := by decide +kernel
theorem d_X11_sumBehind_5 : decode prog_1_method_45_code 5 = .ok (.aload_n 0, 1) := by decide +kernel
theorem d_X11_sumBehind_6 : decode prog_1_method_45_code 6 = .ok (.getfield 60, 3) := by decide +kernel
theorem d_X11_sumBehind_9 : decode prog_1_method_45_code 9 = .ok (.getfield 101, 3) := by decide +kernel
theorem d_X11_sumBehind_12 : decode prog_1_method_45_code 12 = .ok (.if_icmp .ge 18, 3) := by decide +kernel
theorem d_X11_sumBehind_15 : decode prog_1_method_45_code 15 = .ok (.iload_n 2, 1) := by decide +kernel
theorem d_X11_sumBehind_16 : decode prog_1_method_45_code 16 = .ok (.aload_n 0, 1) := by decide +kernel
theorem d_X11_sumBehind_17 : decode prog_1_method_45_code 17 = .ok (.iload_n 3, 1) := by decide +kernel
theorem d_X11_sumBehind_18 : decode prog_1_method_45_code 18 = .ok (.iload_n 1, 1) := by decide +kernel
theorem d_X11_sumBehind_19 : decode prog_1_method_45_code 19 = .ok (.invokevirtual 182, 3) := by decide +kernel
theorem d_X11_sumBehind_22 : decode prog_1_method_45_code 22 = .ok (.iadd, 1) := by decide +kernel
theorem d_X11_sumBehind_23 : decode prog_1_method_45_code 23 = .ok (.istore_n 2, 1) := by decide +kernel
theorem d_X11_sumBehind_24 : decode prog_1_method_45_code 24 = .ok (.iinc 3 1, 3) := by decide +kernel
theorem d_X11_sumBehind_27 : decode prog_1_method_45_code 27 = .ok (.goto (-23), 3) := by decide +kernel
theorem d_X11_sumBehind_30 : decode prog_1_method_45_code 30 = .ok (.iload_n 2, 1) := by decide +kernel
theorem d_X11_sumBehind_31 : decode prog_1_method_45_code 31 = .ok (.ireturn, 1) := by decide +kernel
def f_X11_sumBehind (a0 : Nat) (a1 : Int32) (μ : gm_M) : Option (Option Value × gm_M) := gm_loop (fun (s1 : Int32 × Int32 × gm_M) => gm_gR s1.2.2 [16] a0 1 (fun v2 => gm_gI s1.2.2 [13] v2 1 (fun v3 => if v3 ≤ s1.2.1 then some (Sum.inr (some (.int s1.1), s1.2.2)) else if gm_tag s1.2.2 a0 = 16 then gm_bI (f_X11_holdsBehind a0 s1.2.1 a1 s1.2.2) (fun x5 m4 => some (Sum.inl ((s1.1 + x5), (s1.2.1 + (1 : Int32)), m4))) else none))) 5000 ((0 : Int32), (0 : Int32), μ)
set_option maxHeartbeats 4000000 in
theorem c_X11_sumBehind (a0 : Nat) (a1 : Int32) (μ : gm_M) : gm_Call ({ cls := "GumBubble", name := "sumBehind", desc := "(I)I" } : Jvm.MethodName) prog_1_method_45_code 4 (some .int) 6 0 0 [.ref a0, .int a1] μ (f_X11_sumBehind a0 a1 μ) := by
  refine gm_start PN_11 (Nat.le_of_ble_eq_true rfl) (fun res μe => ?_)
  unfold f_X11_sumBehind
  show gm_A "GumBubble" (gm_nm "sumBehind") _ _ _ _ _ _ _ _ _ 0 [(0, .ref a0), (1, .int a1)] [] _ _
  refine gm_iconst (v := 0) d_X11_sumBehind_0 (by decide) ?_
  refine gm_istore_n (L' := [(2, .int (0 : Int32)), (0, .ref a0), (1, .int a1)]) d_X11_sumBehind_1 rfl (Nat.le_of_ble_eq_true rfl) rfl ?_
  refine gm_iconst (v := 0) d_X11_sumBehind_2 (by decide) ?_
  refine gm_istore_n (L' := [(3, .int (0 : Int32)), (2, .int (0 : Int32)), (0, .ref a0), (1, .int a1)]) d_X11_sumBehind_3 rfl (Nat.le_of_ble_eq_true rfl) rfl ?_
  refine gm_sub (L' := [(0, .ref a0), (1, .int a1), (2, .int (0 : Int32)), (3, .int (0 : Int32))]) [2, 3, 1, 0] rfl ?_
  refine gm_lp (S := Int32 × Int32 × gm_M) (fun _ => 0) (fun _ => 0) (fun s1 => s1.2.2) (fun s1 => [(0, .ref a0), (1, .int a1), (2, .int s1.1), (3, .int s1.2.1)]) (fun _ => []) (fun s1 => ?_) 5000 ((0 : Int32), (0 : Int32), μ)
  refine gm_iload_n d_X11_sumBehind_4 rfl 3 rfl ?_
  refine gm_aload_n d_X11_sumBehind_5 rfl 0 rfl ?_
  refine gm_getR F_11_now gw_262 d_X11_sumBehind_6 (fun v2 _ => ?_)
  refine gm_getI F_8_size gw_221 d_X11_sumBehind_9 (fun v3 _ => ?_)
  refine gm_icmp_ge (tgt := 30) d_X11_sumBehind_12 (by decide) (fun h12 => ?_) (fun h12 => ?_)
  ·
    refine gm_iload_n d_X11_sumBehind_30 rfl 2 rfl ?_
    exact gm_iret rfl d_X11_sumBehind_31 (Nat.le_of_ble_eq_true rfl) (Nat.le_of_ble_eq_true rfl) (fun h => h)
  ·
    refine gm_iload_n d_X11_sumBehind_15 rfl 2 rfl ?_
    refine gm_aload_n d_X11_sumBehind_16 rfl 0 rfl ?_
    refine gm_iload_n d_X11_sumBehind_17 rfl 3 rfl ?_
    refine gm_iload_n d_X11_sumBehind_18 rfl 1 rfl ?_
    refine gm_grd (fun g19 => ?_)
    refine gm_callV (k0 := 11) [.int s1.2.1, .int a1] (c_X11_holdsBehind a0 s1.2.1 a1 s1.2.2) g19 rfl B_X11_holdsBehind gw_581 gs_15 rfl rfl rfl d_X11_sumBehind_19 (gm_kI (fun x5 m4 => ?_))
    refine gm_iadd d_X11_sumBehind_22 ?_
    refine gm_istore_n (L' := [(2, .int (s1.1 + x5)), (0, .ref a0), (1, .int a1), (3, .int s1.2.1)]) d_X11_sumBehind_23 rfl (Nat.le_of_ble_eq_true rfl) rfl ?_
    refine gm_iinc (v := s1.2.1 + (1 : Int32)) (L' := [(3, .int (s1.2.1 + (1 : Int32))), (2, .int (s1.1 + x5)), (0, .ref a0), (1, .int a1)]) d_X11_sumBehind_24 3 rfl rfl (Nat.le_of_ble_eq_true rfl) rfl ?_
    refine gm_goto (tgt := 4) d_X11_sumBehind_27 (by decide) ?_
    refine gm_sub (L' := [(0, .ref a0), (1, .int a1), (2, .int (s1.1 + x5)), (3, .int (s1.2.1 + (1 : Int32)))]) [2, 3, 1, 0] rfl ?_
    exact gm_back (fun h => h)
theorem d_X11_mean_0 : decode prog_1_method_28_code 0 = .ok (.iload_n 1, 1) := by decide +kernel
theorem d_X11_mean_1 : decode prog_1_method_28_code 1 = .ok (.iconst 0, 1) := by decide +kernel
theorem d_X11_mean_2 : decode prog_1_method_28_code 2 = .ok (.bipush 60, 2) := by decide +kernel
theorem d_X11_mean_4 : decode prog_1_method_28_code 4 = .ok (.invokestatic 76, 3) := by decide +kernel
theorem d_X11_mean_7 : decode prog_1_method_28_code 7 = .ok (.ifCond .ne 22, 3) := by decide +kernel
theorem d_X11_mean_10 : decode prog_1_method_28_code 10 = .ok (.iload_n 2, 1) := by decide +kernel
theorem d_X11_mean_11 : decode prog_1_method_28_code 11 = .ok (.iconst 0, 1) := by decide +kernel
theorem d_X11_mean_12 : decode prog_1_method_28_code 12 = .ok (.iconst 1, 1) := by decide +kernel
theorem d_X11_mean_13 : decode prog_1_method_28_code 13 = .ok (.invokestatic 76, 3) := by decide +kernel
theorem d_X11_mean_16 : decode prog_1_method_28_code 16 = .ok (.ifCond .ne 13, 3) := by decide +kernel
theorem d_X11_mean_19 : decode prog_1_method_28_code 19 = .ok (.aload_n 0, 1) := by decide +kernel
theorem d_X11_mean_20 : decode prog_1_method_28_code 20 = .ok (.getfield 60, 3) := by decide +kernel
theorem d_X11_mean_23 : decode prog_1_method_28_code 23 = .ok (.getfield 101, 3) := by decide +kernel
theorem d_X11_mean_26 : decode prog_1_method_28_code 26 = .ok (.ifCond .ne 7, 3) := by decide +kernel
theorem d_X11_mean_29 : decode prog_1_method_28_code 29 = .ok (.ldc2_w 202, 3) := by decide +kernel
theorem d_X11_mean_32 : decode prog_1_method_28_code 32 = .ok (.lreturn, 1) := by decide +kernel
theorem d_X11_mean_33 : decode prog_1_method_28_code 33 = .ok (.aload_n 0, 1) := by decide +kernel
theorem d_X11_mean_34 : decode prog_1_method_28_code 34 = .ok (.iload_n 1, 1) := by decide +kernel
theorem d_X11_mean_35 : decode prog_1_method_28_code 35 = .ok (.invokevirtual 168, 3) := by decide +kernel
theorem d_X11_mean_38 : decode prog_1_method_28_code 38 = .ok (.aload_n 0, 1) := by decide +kernel
theorem d_X11_mean_39 : decode prog_1_method_28_code 39 = .ok (.getfield 60, 3) := by decide +kernel
theorem d_X11_mean_42 : decode prog_1_method_28_code 42 = .ok (.getfield 101, 3) := by decide +kernel
theorem d_X11_mean_45 : decode prog_1_method_28_code 45 = .ok (.iload_n 2, 1) := by decide +kernel
theorem d_X11_mean_46 : decode prog_1_method_28_code 46 = .ok (.invokestatic 207, 3) := by decide +kernel
theorem d_X11_mean_49 : decode prog_1_method_28_code 49 = .ok (.lreturn, 1) := by decide +kernel
def f_X11_mean (a0 : Nat) (a1 : Int32) (a2 : Int32) (μ : gm_M) : Option (Option Value × gm_M) := gm_bI (f_X11_isOutside a1 (0 : Int32) (60 : Int32) μ) (fun x2 m1 => gm_j (fun (s3 : gm_M) => some (some (.long (-9223372036854775808 : Int64)), s3)) (fun j4 => if x2 ≠ 0 then j4 m1 else gm_bI (f_X11_isOutside a2 (0 : Int32) (1 : Int32) m1) (fun x6 m5 => if x6 ≠ 0 then j4 m5 else gm_gR m5 [16] a0 1 (fun v7 => gm_gI m5 [13] v7 1 (fun v8 => if v8 ≠ 0 then if gm_tag m5 a0 = 16 then gm_bI (f_X11_sumBehind a0 a1 m5) (fun x10 m9 => gm_gR m9 [16] a0 1 (fun v11 => gm_gI m9 [13] v11 1 (fun v12 => gm_bL (f_X11_fraction x10 v12 a2 m9) (fun x14 m13 => some (some (.long x14), m13))))) else none else j4 m5)))))
set_option maxHeartbeats 4000000 in
theorem c_X11_mean (a0 : Nat) (a1 : Int32) (a2 : Int32) (μ : gm_M) : gm_Call ({ cls := "GumBubble", name := "mean", desc := "(II)J" } : Jvm.MethodName) prog_1_method_28_code 3 (some .long) 7 0 0 [.ref a0, .int a1, .int a2] μ (f_X11_mean a0 a1 a2 μ) := by
  refine gm_start PN_11 (Nat.le_of_ble_eq_true rfl) (fun res μe => ?_)
  unfold f_X11_mean
  show gm_A "GumBubble" (gm_nm "mean") _ _ _ _ _ _ _ _ _ 0 [(0, .ref a0), (1, .int a1), (2, .int a2)] [] _ _
  refine gm_iload_n d_X11_mean_0 rfl 1 rfl ?_
  refine gm_iconst (v := 0) d_X11_mean_1 (by decide) ?_
  refine gm_bipush (v := 60) d_X11_mean_2 (by decide) ?_
  refine gm_callS [.int a1, .int (0 : Int32), .int (60 : Int32)] (c_X11_isOutside a1 (0 : Int32) (60 : Int32) μ) B_X11_isOutside gw_296 rfl rfl rfl d_X11_mean_4 (gm_kI (fun x2 m1 => ?_))
  refine gm_join (S := gm_M) (pj := 29) (kj := 0) (nj := 0) (fun s3 => s3) (fun s3 => [(0, .ref a0), (1, .int a1), (2, .int a2)]) (fun s3 => []) (fun s3 => ?_) (fun j4 hj4 => ?_)
  ·
    refine gm_ldc2 (v := -9223372036854775808) gw_652 d_X11_mean_29 ?_
    exact gm_lret rfl d_X11_mean_32 (Nat.le_of_ble_eq_true rfl) (Nat.le_of_ble_eq_true rfl) (fun h => h)
  ·
    refine gm_if_ne (tgt := 29) d_X11_mean_7 (by decide) (fun h7 => ?_) (fun h7 => ?_)
    ·
      exact hj4 m1
    ·
      refine gm_iload_n d_X11_mean_10 rfl 2 rfl ?_
      refine gm_iconst (v := 0) d_X11_mean_11 (by decide) ?_
      refine gm_iconst (v := 1) d_X11_mean_12 (by decide) ?_
      refine gm_callS [.int a2, .int (0 : Int32), .int (1 : Int32)] (c_X11_isOutside a2 (0 : Int32) (1 : Int32) m1) B_X11_isOutside gw_296 rfl rfl rfl d_X11_mean_13 (gm_kI (fun x6 m5 => ?_))
      refine gm_if_ne (tgt := 29) d_X11_mean_16 (by decide) (fun h16 => ?_) (fun h16 => ?_)
      ·
        exact hj4 m5
      ·
        refine gm_aload_n d_X11_mean_19 rfl 0 rfl ?_
        refine gm_getR F_11_now gw_262 d_X11_mean_20 (fun v7 _ => ?_)
        refine gm_getI F_8_size gw_221 d_X11_mean_23 (fun v8 _ => ?_)
        refine gm_if_ne (tgt := 33) d_X11_mean_26 (by decide) (fun h26 => ?_) (fun h26 => ?_)
        ·
          refine gm_aload_n d_X11_mean_33 rfl 0 rfl ?_
          refine gm_iload_n d_X11_mean_34 rfl 1 rfl ?_
          refine gm_grd (fun g35 => ?_)
          refine gm_callV (k0 := 11) [.int a1] (c_X11_sumBehind a0 a1 m5) g35 rfl B_X11_sumBehind gw_577 gs_14 rfl rfl rfl d_X11_mean_35 (gm_kI (fun x10 m9 => ?_))
          refine gm_aload_n d_X11_mean_38 rfl 0 rfl ?_
          refine gm_getR F_11_now gw_262 d_X11_mean_39 (fun v11 _ => ?_)
          refine gm_getI F_8_size gw_221 d_X11_mean_42 (fun v12 _ => ?_)
          refine gm_iload_n d_X11_mean_45 rfl 2 rfl ?_
          refine gm_callS [.int x10, .int v12, .int a2] (c_X11_fraction x10 v12 a2 m9) B_X11_fraction gw_662 rfl rfl rfl d_X11_mean_46 (gm_kL (fun x14 m13 => ?_))
          exact gm_lret rfl d_X11_mean_49 (Nat.le_of_ble_eq_true rfl) (Nat.le_of_ble_eq_true rfl) (fun h => h)
        ·
          exact hj4 m5
theorem d_X11_of_0 : decode prog_1_method_5_code 0 = .ok (.aload_n 0, 1) := by decide +kernel
theorem d_X11_of_1 : decode prog_1_method_5_code 1 = .ok (.iload_n 1, 1) := by decide +kernel
theorem d_X11_of_2 : decode prog_1_method_5_code 2 = .ok (.invokevirtual 115, 3) := by decide +kernel
theorem d_X11_of_5 : decode prog_1_method_5_code 5 = .ok (.ifCond .eq 5, 3) := by decide +kernel
theorem d_X11_of_8 : decode prog_1_method_5_code 8 = .ok (.iconst (-1), 1) := by decide +kernel
theorem d_X11_of_9 : decode prog_1_method_5_code 9 = .ok (.ireturn, 1) := by decide +kernel
theorem d_X11_of_10 : decode prog_1_method_5_code 10 = .ok (.aload_n 0, 1) := by decide +kernel
theorem d_X11_of_11 : decode prog_1_method_5_code 11 = .ok (.getfield 60, 3) := by decide +kernel
theorem d_X11_of_14 : decode prog_1_method_5_code 14 = .ok (.getfield 104, 3) := by decide +kernel
theorem d_X11_of_17 : decode prog_1_method_5_code 17 = .ok (.iload_n 1, 1) := by decide +kernel
theorem d_X11_of_18 : decode prog_1_method_5_code 18 = .ok (.aaload, 1) := by decide +kernel
theorem d_X11_of_19 : decode prog_1_method_5_code 19 = .ok (.astore_n 3, 1) := by decide +kernel
theorem d_X11_of_20 : decode prog_1_method_5_code 20 = .ok (.iload_n 2, 1) := by decide +kernel
theorem d_X11_of_21 : decode prog_1_method_5_code 21 = .ok (.tableswitch 147 0 10 #[59, 67, 72, 77, 82, 87, 92, 97, 116, 132, 141], 59) := by decide +kernel
theorem d_X11_of_80 : decode prog_1_method_5_code 80 = .ok (.aload_n 3, 1) := by decide +kernel
theorem d_X11_of_81 : decode prog_1_method_5_code 81 = .ok (.getfield 119, 3) := by decide +kernel
theorem d_X11_of_84 : decode prog_1_method_5_code 84 = .ok (.getfield 123, 3) := by decide +kernel
theorem d_X11_of_87 : decode prog_1_method_5_code 87 = .ok (.ireturn, 1) := by decide +kernel
theorem d_X11_of_88 : decode prog_1_method_5_code 88 = .ok (.aload_n 3, 1) := by decide +kernel
theorem d_X11_of_89 : decode prog_1_method_5_code 89 = .ok (.getfield 126, 3) := by decide +kernel
theorem d_X11_of_92 : decode prog_1_method_5_code 92 = .ok (.ireturn, 1) := by decide +kernel
theorem d_X11_of_93 : decode prog_1_method_5_code 93 = .ok (.aload_n 3, 1) := by decide +kernel
theorem d_X11_of_94 : decode prog_1_method_5_code 94 = .ok (.getfield 129, 3) := by decide +kernel
theorem d_X11_of_97 : decode prog_1_method_5_code 97 = .ok (.ireturn, 1) := by decide +kernel
theorem d_X11_of_98 : decode prog_1_method_5_code 98 = .ok (.aload_n 3, 1) := by decide +kernel
theorem d_X11_of_99 : decode prog_1_method_5_code 99 = .ok (.getfield 132, 3) := by decide +kernel
theorem d_X11_of_102 : decode prog_1_method_5_code 102 = .ok (.ireturn, 1) := by decide +kernel
theorem d_X11_of_103 : decode prog_1_method_5_code 103 = .ok (.aload_n 3, 1) := by decide +kernel
theorem d_X11_of_104 : decode prog_1_method_5_code 104 = .ok (.getfield 135, 3) := by decide +kernel
theorem d_X11_of_107 : decode prog_1_method_5_code 107 = .ok (.ireturn, 1) := by decide +kernel
theorem d_X11_of_108 : decode prog_1_method_5_code 108 = .ok (.aload_n 3, 1) := by decide +kernel
theorem d_X11_of_109 : decode prog_1_method_5_code 109 = .ok (.getfield 138, 3) := by decide +kernel
theorem d_X11_of_112 : decode prog_1_method_5_code 112 = .ok (.ireturn, 1) := by decide +kernel
theorem d_X11_of_113 : decode prog_1_method_5_code 113 = .ok (.aload_n 3, 1) := by decide +kernel
theorem d_X11_of_114 : decode prog_1_method_5_code 114 = .ok (.getfield 141, 3) := by decide +kernel
theorem d_X11_of_117 : decode prog_1_method_5_code 117 = .ok (.ireturn, 1) := by decide +kernel
theorem d_X11_of_118 : decode prog_1_method_5_code 118 = .ok (.aload_n 0, 1) := by decide +kernel
theorem d_X11_of_119 : decode prog_1_method_5_code 119 = .ok (.getfield 60, 3) := by decide +kernel
theorem d_X11_of_122 : decode prog_1_method_5_code 122 = .ok (.getfield 97, 3) := by decide +kernel
theorem d_X11_of_125 : decode prog_1_method_5_code 125 = .ok (.aload_n 3, 1) := by decide +kernel
theorem d_X11_of_126 : decode prog_1_method_5_code 126 = .ok (.aload_n 0, 1) := by decide +kernel
theorem d_X11_of_127 : decode prog_1_method_5_code 127 = .ok (.getfield 60, 3) := by decide +kernel
theorem d_X11_of_130 : decode prog_1_method_5_code 130 = .ok (.getfield 144, 3) := by decide +kernel
theorem d_X11_of_133 : decode prog_1_method_5_code 133 = .ok (.invokevirtual 147, 3) := by decide +kernel
theorem d_X11_of_136 : decode prog_1_method_5_code 136 = .ok (.ireturn, 1) := by decide +kernel
theorem d_X11_of_137 : decode prog_1_method_5_code 137 = .ok (.aload_n 3, 1) := by decide +kernel
theorem d_X11_of_138 : decode prog_1_method_5_code 138 = .ok (.getfield 119, 3) := by decide +kernel
theorem d_X11_of_141 : decode prog_1_method_5_code 141 = .ok (.aload_n 3, 1) := by decide +kernel
theorem d_X11_of_142 : decode prog_1_method_5_code 142 = .ok (.aload_n 0, 1) := by decide +kernel
theorem d_X11_of_143 : decode prog_1_method_5_code 143 = .ok (.getfield 60, 3) := by decide +kernel
theorem d_X11_of_146 : decode prog_1_method_5_code 146 = .ok (.getfield 144, 3) := by decide +kernel
theorem d_X11_of_149 : decode prog_1_method_5_code 149 = .ok (.invokevirtual 151, 3) := by decide +kernel
theorem d_X11_of_152 : decode prog_1_method_5_code 152 = .ok (.ireturn, 1) := by decide +kernel
theorem d_X11_of_153 : decode prog_1_method_5_code 153 = .ok (.aload_n 3, 1) := by decide +kernel
theorem d_X11_of_154 : decode prog_1_method_5_code 154 = .ok (.getfield 119, 3) := by decide +kernel
theorem d_X11_of_157 : decode prog_1_method_5_code 157 = .ok (.aload_n 3, 1) := by decide +kernel
theorem d_X11_of_158 : decode prog_1_method_5_code 158 = .ok (.invokevirtual 154, 3) := by decide +kernel
theorem d_X11_of_161 : decode prog_1_method_5_code 161 = .ok (.ireturn, 1) := by decide +kernel
theorem d_X11_of_162 : decode prog_1_method_5_code 162 = .ok (.aload_n 0, 1) := by decide +kernel
theorem d_X11_of_163 : decode prog_1_method_5_code 163 = .ok (.iload_n 1, 1) := by decide +kernel
theorem d_X11_of_164 : decode prog_1_method_5_code 164 = .ok (.invokevirtual 158, 3) := by decide +kernel
theorem d_X11_of_167 : decode prog_1_method_5_code 167 = .ok (.ireturn, 1) := by decide +kernel
theorem d_X11_of_168 : decode prog_1_method_5_code 168 = .ok (.iconst (-1), 1) := by decide +kernel
theorem d_X11_of_169 : decode prog_1_method_5_code 169 = .ok (.ireturn, 1) := by decide +kernel
def f_X11_of (a0 : Nat) (a1 : Int32) (a2 : Int32) (μ : gm_M) : Option (Option Value × gm_M) := if gm_tag μ a0 = 16 then gm_bI (f_X11_isNobody a0 a1 μ) (fun x2 m1 => if x2 = 0 then gm_gR m1 [16] a0 1 (fun v3 => gm_gR m1 [13] v3 2 (fun v4 => gm_aR m1 4 v4 a1 (fun v5 => if a2 = 0 then gm_gR m1 [7] v5 1 (fun v6 => gm_gI m1 [6, 8, 9, 10, 11, 14, 15] v6 0 (fun v7 => some (some (.int v7), m1))) else if a2 = 1 then gm_gI m1 [7] v5 2 (fun v8 => some (some (.int v8), m1)) else if a2 = 2 then gm_gI m1 [7] v5 3 (fun v9 => some (some (.int v9), m1)) else if a2 = 3 then gm_gI m1 [7] v5 4 (fun v10 => some (some (.int v10), m1)) else if a2 = 4 then gm_gI m1 [7] v5 5 (fun v11 => some (some (.int v11), m1)) else if a2 = 5 then gm_gI m1 [7] v5 6 (fun v12 => some (some (.int v12), m1)) else if a2 = 6 then gm_gI m1 [7] v5 7 (fun v13 => some (some (.int v13), m1)) else if a2 = 7 then gm_gR m1 [16] a0 1 (fun v14 => gm_gR m1 [13] v14 6 (fun v15 => gm_gR m1 [16] a0 1 (fun v16 => gm_gI m1 [13] v16 0 (fun v17 => if gm_tag m1 v15 = 5 then gm_bI (f_X0_stretchOf v15 v5 v17 m1) (fun x19 m18 => some (some (.int x19), m18)) else none)))) else if a2 = 8 then gm_gR m1 [7] v5 1 (fun v20 => gm_gR m1 [16] a0 1 (fun v21 => gm_gI m1 [13] v21 0 (fun v22 => gm_bI (fv_sugarChewed v20 v5 v22 m1) (fun x24 m23 => some (some (.int x24), m23))))) else if a2 = 9 then gm_gR m1 [7] v5 1 (fun v25 => gm_bI (fv_jawTired v25 v5 m1) (fun x27 m26 => some (some (.int x27), m26))) else if a2 = 10 then if gm_tag m1 a0 = 16 then gm_bI (f_X11_holdsNow a0 a1 m1) (fun x29 m28 => some (some (.int x29), m28)) else none else some (some (.int (-1 : Int32)), m1)))) else some (some (.int (-1 : Int32)), m1)) else none
set_option maxHeartbeats 4000000 in
theorem c_X11_of (a0 : Nat) (a1 : Int32) (a2 : Int32) (μ : gm_M) : gm_Call ({ cls := "GumBubble", name := "of", desc := "(II)I" } : Jvm.MethodName) prog_1_method_5_code 4 (some .int) 5 0 0 [.ref a0, .int a1, .int a2] μ (f_X11_of a0 a1 a2 μ) := by
  refine gm_start PN_11 (Nat.le_of_ble_eq_true rfl) (fun res μe => ?_)
  unfold f_X11_of
  show gm_A "GumBubble" (gm_nm "of") _ _ _ _ _ _ _ _ _ 0 [(0, .ref a0), (1, .int a1), (2, .int a2)] [] _ _
  refine gm_aload_n d_X11_of_0 rfl 0 rfl ?_
  refine gm_iload_n d_X11_of_1 rfl 1 rfl ?_
  refine gm_grd (fun g2 => ?_)
  refine gm_callV (k0 := 11) [.int a1] (c_X11_isNobody a0 a1 μ) g2 rfl B_X11_isNobody gw_478 gs_11 rfl rfl rfl d_X11_of_2 (gm_kI (fun x2 m1 => ?_))
  refine gm_if_eq (tgt := 10) d_X11_of_5 (by decide) (fun h5 => ?_) (fun h5 => ?_)
  ·
    refine gm_aload_n d_X11_of_10 rfl 0 rfl ?_
    refine gm_getR F_11_now gw_262 d_X11_of_11 (fun v3 _ => ?_)
    refine gm_getR F_8_children gw_223 d_X11_of_14 (fun v4 _ => ?_)
    refine gm_iload_n d_X11_of_17 rfl 1 rfl ?_
    refine gm_aald (Or.inr rfl) d_X11_of_18 (fun v5 _ => ?_)
    refine gm_astore_n (L' := [(3, .ref v5), (0, .ref a0), (1, .int a1), (2, .int a2)]) d_X11_of_19 rfl (Nat.le_of_ble_eq_true rfl) rfl ?_
    refine gm_iload_n d_X11_of_20 rfl 3 rfl ?_
    refine gm_ite (P := a2 = 0) (fun h21_0 => ?_) (fun h21_0 => ?_)
    ·
      refine gm_swIn (v := 0) (off := 59) (tgt := 80) d_X11_of_21 (by rw [h21_0] <;> rfl) (by decide) (by decide) (by decide) (by decide) ?_
      refine gm_aload_n d_X11_of_80 rfl 0 rfl ?_
      refine gm_getR F_2_kind gw_172 d_X11_of_81 (fun v6 _ => ?_)
      refine gm_getI F_5_number gw_58 d_X11_of_84 (fun v7 _ => ?_)
      exact gm_iret rfl d_X11_of_87 (Nat.le_of_ble_eq_true rfl) (Nat.le_of_ble_eq_true rfl) (fun h => h)
    ·
      refine gm_ite (P := a2 = 1) (fun h21_1 => ?_) (fun h21_1 => ?_)
      ·
        refine gm_swIn (v := 1) (off := 67) (tgt := 88) d_X11_of_21 (by rw [h21_1] <;> rfl) (by decide) (by decide) (by decide) (by decide) ?_
        refine gm_aload_n d_X11_of_88 rfl 0 rfl ?_
        refine gm_getI F_2_v gw_177 d_X11_of_89 (fun v8 _ => ?_)
        exact gm_iret rfl d_X11_of_92 (Nat.le_of_ble_eq_true rfl) (Nat.le_of_ble_eq_true rfl) (fun h => h)
      ·
        refine gm_ite (P := a2 = 2) (fun h21_2 => ?_) (fun h21_2 => ?_)
        ·
          refine gm_swIn (v := 2) (off := 72) (tgt := 93) d_X11_of_21 (by rw [h21_2] <;> rfl) (by decide) (by decide) (by decide) (by decide) ?_
          refine gm_aload_n d_X11_of_93 rfl 0 rfl ?_
          refine gm_getI F_2_pieces gw_185 d_X11_of_94 (fun v9 _ => ?_)
          exact gm_iret rfl d_X11_of_97 (Nat.le_of_ble_eq_true rfl) (Nat.le_of_ble_eq_true rfl) (fun h => h)
        ·
          refine gm_ite (P := a2 = 3) (fun h21_3 => ?_) (fun h21_3 => ?_)
          ·
            refine gm_swIn (v := 3) (off := 77) (tgt := 98) d_X11_of_21 (by rw [h21_3] <;> rfl) (by decide) (by decide) (by decide) (by decide) ?_
            refine gm_aload_n d_X11_of_98 rfl 0 rfl ?_
            refine gm_getI F_2_sugar gw_188 d_X11_of_99 (fun v10 _ => ?_)
            exact gm_iret rfl d_X11_of_102 (Nat.le_of_ble_eq_true rfl) (Nat.le_of_ble_eq_true rfl) (fun h => h)
          ·
            refine gm_ite (P := a2 = 4) (fun h21_4 => ?_) (fun h21_4 => ?_)
            ·
              refine gm_swIn (v := 4) (off := 82) (tgt := 103) d_X11_of_21 (by rw [h21_4] <;> rfl) (by decide) (by decide) (by decide) (by decide) ?_
              refine gm_aload_n d_X11_of_103 rfl 0 rfl ?_
              refine gm_getI F_2_jaw gw_191 d_X11_of_104 (fun v11 _ => ?_)
              exact gm_iret rfl d_X11_of_107 (Nat.le_of_ble_eq_true rfl) (Nat.le_of_ble_eq_true rfl) (fun h => h)
            ·
              refine gm_ite (P := a2 = 5) (fun h21_5 => ?_) (fun h21_5 => ?_)
              ·
                refine gm_swIn (v := 5) (off := 87) (tgt := 108) d_X11_of_21 (by rw [h21_5] <;> rfl) (by decide) (by decide) (by decide) (by decide) ?_
                refine gm_aload_n d_X11_of_108 rfl 0 rfl ?_
                refine gm_getI F_2_bubble gw_193 d_X11_of_109 (fun v12 _ => ?_)
                exact gm_iret rfl d_X11_of_112 (Nat.le_of_ble_eq_true rfl) (Nat.le_of_ble_eq_true rfl) (fun h => h)
              ·
                refine gm_ite (P := a2 = 6) (fun h21_6 => ?_) (fun h21_6 => ?_)
                ·
                  refine gm_swIn (v := 6) (off := 92) (tgt := 113) d_X11_of_21 (by rw [h21_6] <;> rfl) (by decide) (by decide) (by decide) (by decide) ?_
                  refine gm_aload_n d_X11_of_113 rfl 0 rfl ?_
                  refine gm_getI F_2_hair gw_195 d_X11_of_114 (fun v13 _ => ?_)
                  exact gm_iret rfl d_X11_of_117 (Nat.le_of_ble_eq_true rfl) (Nat.le_of_ble_eq_true rfl) (fun h => h)
                ·
                  refine gm_ite (P := a2 = 7) (fun h21_7 => ?_) (fun h21_7 => ?_)
                  ·
                    refine gm_swIn (v := 7) (off := 97) (tgt := 118) d_X11_of_21 (by rw [h21_7] <;> rfl) (by decide) (by decide) (by decide) (by decide) ?_
                    refine gm_aload_n d_X11_of_118 rfl 1 rfl ?_
                    refine gm_getR F_11_now gw_262 d_X11_of_119 (fun v14 _ => ?_)
                    refine gm_getR F_8_afternoon gw_231 d_X11_of_122 (fun v15 _ => ?_)
                    refine gm_aload_n d_X11_of_125 rfl 0 rfl ?_
                    refine gm_aload_n d_X11_of_126 rfl 1 rfl ?_
                    refine gm_getR F_11_now gw_262 d_X11_of_127 (fun v16 _ => ?_)
                    refine gm_getI F_8_minute gw_219 d_X11_of_130 (fun v17 _ => ?_)
                    refine gm_grd (fun g133 => ?_)
                    refine gm_callV (k0 := 0) [.ref v5, .int v17] (c_X0_stretchOf v15 v5 v17 m1) g133 rfl B_X0_stretchOf gw_482 gw_484 rfl rfl rfl d_X11_of_133 (gm_kI (fun x19 m18 => ?_))
                    exact gm_iret rfl d_X11_of_136 (Nat.le_of_ble_eq_true rfl) (Nat.le_of_ble_eq_true rfl) (fun h => h)
                  ·
                    refine gm_ite (P := a2 = 8) (fun h21_8 => ?_) (fun h21_8 => ?_)
                    ·
                      refine gm_swIn (v := 8) (off := 116) (tgt := 137) d_X11_of_21 (by rw [h21_8] <;> rfl) (by decide) (by decide) (by decide) (by decide) ?_
                      refine gm_aload_n d_X11_of_137 rfl 0 rfl ?_
                      refine gm_getR F_2_kind gw_172 d_X11_of_138 (fun v20 _ => ?_)
                      refine gm_aload_n d_X11_of_141 rfl 0 rfl ?_
                      refine gm_aload_n d_X11_of_142 rfl 1 rfl ?_
                      refine gm_getR F_11_now gw_262 d_X11_of_143 (fun v21 _ => ?_)
                      refine gm_getI F_8_minute gw_219 d_X11_of_146 (fun v22 _ => ?_)
                      refine V_sugarChewed v20 v5 v22 gw_494 rfl rfl rfl d_X11_of_149 (gm_kI (fun x24 m23 => ?_))
                      exact gm_iret rfl d_X11_of_152 (Nat.le_of_ble_eq_true rfl) (Nat.le_of_ble_eq_true rfl) (fun h => h)
                    ·
                      refine gm_ite (P := a2 = 9) (fun h21_9 => ?_) (fun h21_9 => ?_)
                      ·
                        refine gm_swIn (v := 9) (off := 132) (tgt := 153) d_X11_of_21 (by rw [h21_9] <;> rfl) (by decide) (by decide) (by decide) (by decide) ?_
                        refine gm_aload_n d_X11_of_153 rfl 0 rfl ?_
                        refine gm_getR F_2_kind gw_172 d_X11_of_154 (fun v25 _ => ?_)
                        refine gm_aload_n d_X11_of_157 rfl 0 rfl ?_
                        refine V_jawTired v25 v5 gw_524 rfl rfl rfl d_X11_of_158 (gm_kI (fun x27 m26 => ?_))
                        exact gm_iret rfl d_X11_of_161 (Nat.le_of_ble_eq_true rfl) (Nat.le_of_ble_eq_true rfl) (fun h => h)
                      ·
                        refine gm_ite (P := a2 = 10) (fun h21_10 => ?_) (fun h21_10 => ?_)
                        ·
                          refine gm_swIn (v := 10) (off := 141) (tgt := 162) d_X11_of_21 (by rw [h21_10] <;> rfl) (by decide) (by decide) (by decide) (by decide) ?_
                          refine gm_aload_n d_X11_of_162 rfl 1 rfl ?_
                          refine gm_iload_n d_X11_of_163 rfl 2 rfl ?_
                          refine gm_grd (fun g164 => ?_)
                          refine gm_callV (k0 := 11) [.int a1] (c_X11_holdsNow a0 a1 m1) g164 rfl B_X11_holdsNow gw_541 gs_13 rfl rfl rfl d_X11_of_164 (gm_kI (fun x29 m28 => ?_))
                          exact gm_iret rfl d_X11_of_167 (Nat.le_of_ble_eq_true rfl) (Nat.le_of_ble_eq_true rfl) (fun h => h)
                        ·
                          refine gm_swOut (tgt := 168) d_X11_of_21 (by have g0 := lv_neT h21_0 (show (0 : Int32).toInt = 0 from rfl); have g1 := lv_neT h21_1 (show (1 : Int32).toInt = 1 from rfl); have g2 := lv_neT h21_2 (show (2 : Int32).toInt = 2 from rfl); have g3 := lv_neT h21_3 (show (3 : Int32).toInt = 3 from rfl); have g4 := lv_neT h21_4 (show (4 : Int32).toInt = 4 from rfl); have g5 := lv_neT h21_5 (show (5 : Int32).toInt = 5 from rfl); have g6 := lv_neT h21_6 (show (6 : Int32).toInt = 6 from rfl); have g7 := lv_neT h21_7 (show (7 : Int32).toInt = 7 from rfl); have g8 := lv_neT h21_8 (show (8 : Int32).toInt = 8 from rfl); have g9 := lv_neT h21_9 (show (9 : Int32).toInt = 9 from rfl); have g10 := lv_neT h21_10 (show (10 : Int32).toInt = 10 from rfl); omega) (by decide) ?_
                          refine gm_iconst (v := -1) d_X11_of_168 (by decide) ?_
                          exact gm_iret rfl d_X11_of_169 (Nat.le_of_ble_eq_true rfl) (Nat.le_of_ble_eq_true rfl) (fun h => h)
  ·
    refine gm_iconst (v := -1) d_X11_of_8 (by decide) ?_
    exact gm_iret rfl d_X11_of_9 (Nat.le_of_ble_eq_true rfl) (Nat.le_of_ble_eq_true rfl) (fun h => h)
theorem d_X11_on_0 : decode prog_1_method_11_code 0 = .ok (.iload_n 2, 1) := by decide +kernel
theorem d_X11_on_1 : decode prog_1_method_11_code 1 = .ok (.bipush 20, 2) := by decide +kernel
theorem d_X11_on_3 : decode prog_1_method_11_code 3 = .ok (.if_icmp .lt 10, 3) := by decide +kernel
theorem d_X11_on_6 : decode prog_1_method_11_code 6 = .ok (.iload_n 2, 1) := by decide +kernel
theorem d_X11_on_7 : decode prog_1_method_11_code 7 = .ok (.bipush 20, 2) := by decide +kernel
theorem d_X11_on_9 : decode prog_1_method_11_code 9 = .ok (.isub, 1) := by decide +kernel
theorem d_X11_on_10 : decode prog_1_method_11_code 10 = .ok (.goto 7, 3) := by decide +kernel
theorem d_X11_on_13 : decode prog_1_method_11_code 13 = .ok (.iload_n 2, 1) := by decide +kernel
theorem d_X11_on_14 : decode prog_1_method_11_code 14 = .ok (.bipush 10, 2) := by decide +kernel
theorem d_X11_on_16 : decode prog_1_method_11_code 16 = .ok (.isub, 1) := by decide +kernel
theorem d_X11_on_17 : decode prog_1_method_11_code 17 = .ok (.istore_n 3, 1) := by decide +kernel
theorem d_X11_on_18 : decode prog_1_method_11_code 18 = .ok (.iload_n 2, 1) := by decide +kernel
theorem d_X11_on_19 : decode prog_1_method_11_code 19 = .ok (.ifCond .eq 13, 3) := by decide +kernel
theorem d_X11_on_22 : decode prog_1_method_11_code 22 = .ok (.aload_n 0, 1) := by decide +kernel
theorem d_X11_on_23 : decode prog_1_method_11_code 23 = .ok (.iload_n 3, 1) := by decide +kernel
theorem d_X11_on_24 : decode prog_1_method_11_code 24 = .ok (.invokevirtual 115, 3) := by decide +kernel
theorem d_X11_on_27 : decode prog_1_method_11_code 27 = .ok (.ifCond .eq 5, 3) := by decide +kernel
theorem d_X11_on_30 : decode prog_1_method_11_code 30 = .ok (.iconst (-1), 1) := by decide +kernel
theorem d_X11_on_31 : decode prog_1_method_11_code 31 = .ok (.ireturn, 1) := by decide +kernel
theorem d_X11_on_32 : decode prog_1_method_11_code 32 = .ok (.iload_n 1, 1) := by decide +kernel
theorem d_X11_on_33 : decode prog_1_method_11_code 33 = .ok (.iconst 0, 1) := by decide +kernel
theorem d_X11_on_34 : decode prog_1_method_11_code 34 = .ok (.bipush 60, 2) := by decide +kernel
theorem d_X11_on_36 : decode prog_1_method_11_code 36 = .ok (.invokestatic 76, 3) := by decide +kernel
theorem d_X11_on_39 : decode prog_1_method_11_code 39 = .ok (.ifCond .eq 6, 3) := by decide +kernel
theorem d_X11_on_42 : decode prog_1_method_11_code 42 = .ok (.bipush (-2), 2) := by decide +kernel
theorem d_X11_on_44 : decode prog_1_method_11_code 44 = .ok (.ireturn, 1) := by decide +kernel
theorem d_X11_on_45 : decode prog_1_method_11_code 45 = .ok (.iload_n 2, 1) := by decide +kernel
theorem d_X11_on_46 : decode prog_1_method_11_code 46 = .ok (.ifCond .ne 9, 3) := by decide +kernel
theorem d_X11_on_49 : decode prog_1_method_11_code 49 = .ok (.aload_n 0, 1) := by decide +kernel
theorem d_X11_on_50 : decode prog_1_method_11_code 50 = .ok (.iload_n 1, 1) := by decide +kernel
theorem d_X11_on_51 : decode prog_1_method_11_code 51 = .ok (.invokevirtual 168, 3) := by decide +kernel
theorem d_X11_on_54 : decode prog_1_method_11_code 54 = .ok (.ireturn, 1) := by decide +kernel
theorem d_X11_on_55 : decode prog_1_method_11_code 55 = .ok (.aload_n 0, 1) := by decide +kernel
theorem d_X11_on_56 : decode prog_1_method_11_code 56 = .ok (.iload_n 3, 1) := by decide +kernel
theorem d_X11_on_57 : decode prog_1_method_11_code 57 = .ok (.iload_n 1, 1) := by decide +kernel
theorem d_X11_on_58 : decode prog_1_method_11_code 58 = .ok (.invokevirtual 182, 3) := by decide +kernel
theorem d_X11_on_61 : decode prog_1_method_11_code 61 = .ok (.istore 4, 2) := by decide +kernel
theorem d_X11_on_63 : decode prog_1_method_11_code 63 = .ok (.iload_n 2, 1) := by decide +kernel
theorem d_X11_on_64 : decode prog_1_method_11_code 64 = .ok (.bipush 20, 2) := by decide +kernel
theorem d_X11_on_66 : decode prog_1_method_11_code 66 = .ok (.if_icmp .lt 13, 3) := by decide +kernel
theorem d_X11_on_69 : decode prog_1_method_11_code 69 = .ok (.aload_n 0, 1) := by decide +kernel
theorem d_X11_on_70 : decode prog_1_method_11_code 70 = .ok (.getfield 72, 3) := by decide +kernel
theorem d_X11_on_73 : decode prog_1_method_11_code 73 = .ok (.getfield 132, 3) := by decide +kernel
theorem d_X11_on_76 : decode prog_1_method_11_code 76 = .ok (.goto 5, 3) := by decide +kernel
theorem d_X11_on_79 : decode prog_1_method_11_code 79 = .ok (.iload 4, 2) := by decide +kernel
theorem d_X11_on_81 : decode prog_1_method_11_code 81 = .ok (.ireturn, 1) := by decide +kernel
def f_X11_on (a0 : Nat) (a1 : Int32) (a2 : Int32) (μ : gm_M) : Option (Option Value × gm_M) := gm_j (fun (s1 : Int32) => gm_j (fun (s3 : gm_M) => gm_bI (f_X11_isOutside a1 (0 : Int32) (60 : Int32) s3) (fun x6 m5 => if x6 = 0 then if a2 ≠ 0 then if gm_tag m5 a0 = 16 then gm_bI (f_X11_holdsBehind a0 s1 a1 m5) (fun x8 m7 => if a2 < (20 : Int32) then some (some (.int x8), m7) else gm_gR m7 [16] a0 5 (fun v9 => gm_gI m7 [7] v9 4 (fun v10 => some (some (.int v10), m7)))) else none else if gm_tag m5 a0 = 16 then gm_bI (f_X11_sumBehind a0 a1 m5) (fun x12 m11 => some (some (.int x12), m11)) else none else some (some (.int (-2 : Int32)), m5))) (fun j4 => if a2 = 0 then j4 μ else if gm_tag μ a0 = 16 then gm_bI (f_X11_isNobody a0 s1 μ) (fun x14 m13 => if x14 = 0 then j4 m13 else some (some (.int (-1 : Int32)), m13)) else none)) (fun j2 => if a2 < (20 : Int32) then j2 (a2 - (10 : Int32)) else j2 (a2 - (20 : Int32)))
set_option maxHeartbeats 4000000 in
theorem c_X11_on (a0 : Nat) (a1 : Int32) (a2 : Int32) (μ : gm_M) : gm_Call ({ cls := "GumBubble", name := "on", desc := "(II)I" } : Jvm.MethodName) prog_1_method_11_code 5 (some .int) 7 0 0 [.ref a0, .int a1, .int a2] μ (f_X11_on a0 a1 a2 μ) := by
  refine gm_start PN_11 (Nat.le_of_ble_eq_true rfl) (fun res μe => ?_)
  unfold f_X11_on
  show gm_A "GumBubble" (gm_nm "on") _ _ _ _ _ _ _ _ _ 0 [(0, .ref a0), (1, .int a1), (2, .int a2)] [] _ _
  refine gm_iload_n d_X11_on_0 rfl 2 rfl ?_
  refine gm_bipush (v := 20) d_X11_on_1 (by decide) ?_
  refine gm_join (S := Int32) (pj := 17) (kj := 0) (nj := 0) (fun s1 => μ) (fun s1 => [(0, .ref a0), (1, .int a1), (2, .int a2)]) (fun s1 => [.int s1]) (fun s1 => ?_) (fun j2 hj2 => ?_)
  ·
    refine gm_istore_n (L' := [(3, .int s1), (0, .ref a0), (1, .int a1), (2, .int a2)]) d_X11_on_17 rfl (Nat.le_of_ble_eq_true rfl) rfl ?_
    refine gm_iload_n d_X11_on_18 rfl 3 rfl ?_
    refine gm_join (S := gm_M) (pj := 32) (kj := 0) (nj := 0) (fun s3 => s3) (fun s3 => [(0, .ref a0), (1, .int a1), (2, .int a2), (3, .int s1)]) (fun s3 => []) (fun s3 => ?_) (fun j4 hj4 => ?_)
    ·
      refine gm_iload_n d_X11_on_32 rfl 1 rfl ?_
      refine gm_iconst (v := 0) d_X11_on_33 (by decide) ?_
      refine gm_bipush (v := 60) d_X11_on_34 (by decide) ?_
      refine gm_callS [.int a1, .int (0 : Int32), .int (60 : Int32)] (c_X11_isOutside a1 (0 : Int32) (60 : Int32) s3) B_X11_isOutside gw_296 rfl rfl rfl d_X11_on_36 (gm_kI (fun x6 m5 => ?_))
      refine gm_if_eq (tgt := 45) d_X11_on_39 (by decide) (fun h39 => ?_) (fun h39 => ?_)
      ·
        refine gm_iload_n d_X11_on_45 rfl 2 rfl ?_
        refine gm_if_ne (tgt := 55) d_X11_on_46 (by decide) (fun h46 => ?_) (fun h46 => ?_)
        ·
          refine gm_aload_n d_X11_on_55 rfl 0 rfl ?_
          refine gm_iload_n d_X11_on_56 rfl 3 rfl ?_
          refine gm_iload_n d_X11_on_57 rfl 1 rfl ?_
          refine gm_grd (fun g58 => ?_)
          refine gm_callV (k0 := 11) [.int s1, .int a1] (c_X11_holdsBehind a0 s1 a1 m5) g58 rfl B_X11_holdsBehind gw_581 gs_15 rfl rfl rfl d_X11_on_58 (gm_kI (fun x8 m7 => ?_))
          refine gm_istore (L' := [(4, .int x8), (0, .ref a0), (1, .int a1), (2, .int a2), (3, .int s1)]) d_X11_on_61 (Nat.le_of_ble_eq_true rfl) rfl ?_
          refine gm_iload_n d_X11_on_63 rfl 3 rfl ?_
          refine gm_bipush (v := 20) d_X11_on_64 (by decide) ?_
          refine gm_icmp_lt (tgt := 79) d_X11_on_66 (by decide) (fun h66 => ?_) (fun h66 => ?_)
          ·
            refine gm_iload d_X11_on_79 0 rfl ?_
            exact gm_iret rfl d_X11_on_81 (Nat.le_of_ble_eq_true rfl) (Nat.le_of_ble_eq_true rfl) (fun h => h)
          ·
            refine gm_aload_n d_X11_on_69 rfl 1 rfl ?_
            refine gm_getR F_11_trial gw_266 d_X11_on_70 (fun v9 _ => ?_)
            refine gm_getI F_2_sugar gw_188 d_X11_on_73 (fun v10 _ => ?_)
            refine gm_goto (tgt := 81) d_X11_on_76 (by decide) ?_
            exact gm_iret rfl d_X11_on_81 (Nat.le_of_ble_eq_true rfl) (Nat.le_of_ble_eq_true rfl) (fun h => h)
        ·
          refine gm_aload_n d_X11_on_49 rfl 0 rfl ?_
          refine gm_iload_n d_X11_on_50 rfl 1 rfl ?_
          refine gm_grd (fun g51 => ?_)
          refine gm_callV (k0 := 11) [.int a1] (c_X11_sumBehind a0 a1 m5) g51 rfl B_X11_sumBehind gw_577 gs_14 rfl rfl rfl d_X11_on_51 (gm_kI (fun x12 m11 => ?_))
          exact gm_iret rfl d_X11_on_54 (Nat.le_of_ble_eq_true rfl) (Nat.le_of_ble_eq_true rfl) (fun h => h)
      ·
        refine gm_bipush (v := -2) d_X11_on_42 (by decide) ?_
        exact gm_iret rfl d_X11_on_44 (Nat.le_of_ble_eq_true rfl) (Nat.le_of_ble_eq_true rfl) (fun h => h)
    ·
      refine gm_if_eq (tgt := 32) d_X11_on_19 (by decide) (fun h19 => ?_) (fun h19 => ?_)
      ·
        refine gm_sub (L' := [(0, .ref a0), (1, .int a1), (2, .int a2), (3, .int s1)]) [1, 2, 3, 0] rfl ?_
        exact hj4 μ
      ·
        refine gm_aload_n d_X11_on_22 rfl 1 rfl ?_
        refine gm_iload_n d_X11_on_23 rfl 0 rfl ?_
        refine gm_grd (fun g24 => ?_)
        refine gm_callV (k0 := 11) [.int s1] (c_X11_isNobody a0 s1 μ) g24 rfl B_X11_isNobody gw_478 gs_11 rfl rfl rfl d_X11_on_24 (gm_kI (fun x14 m13 => ?_))
        refine gm_if_eq (tgt := 32) d_X11_on_27 (by decide) (fun h27 => ?_) (fun h27 => ?_)
        ·
          refine gm_sub (L' := [(0, .ref a0), (1, .int a1), (2, .int a2), (3, .int s1)]) [1, 2, 3, 0] rfl ?_
          exact hj4 m13
        ·
          refine gm_iconst (v := -1) d_X11_on_30 (by decide) ?_
          exact gm_iret rfl d_X11_on_31 (Nat.le_of_ble_eq_true rfl) (Nat.le_of_ble_eq_true rfl) (fun h => h)
  ·
    refine gm_icmp_lt (tgt := 13) d_X11_on_3 (by decide) (fun h3 => ?_) (fun h3 => ?_)
    ·
      refine gm_iload_n d_X11_on_13 rfl 2 rfl ?_
      refine gm_bipush (v := 10) d_X11_on_14 (by decide) ?_
      refine gm_isub d_X11_on_16 ?_
      exact hj2 (a2 - (10 : Int32))
    ·
      refine gm_iload_n d_X11_on_6 rfl 2 rfl ?_
      refine gm_bipush (v := 20) d_X11_on_7 (by decide) ?_
      refine gm_isub d_X11_on_9 ?_
      refine gm_goto (tgt := 17) d_X11_on_10 (by decide) ?_
      exact hj2 (a2 - (20 : Int32))
theorem d_X11_order_0 : decode prog_1_method_22_code 0 = .ok (.iload_n 1, 1) := by decide +kernel
theorem d_X11_order_1 : decode prog_1_method_22_code 1 = .ok (.iconst (-1), 1) := by decide +kernel
theorem d_X11_order_2 : decode prog_1_method_22_code 2 = .ok (.iconst 4, 1) := by decide +kernel
theorem d_X11_order_3 : decode prog_1_method_22_code 3 = .ok (.invokestatic 76, 3) := by decide +kernel
theorem d_X11_order_6 : decode prog_1_method_22_code 6 = .ok (.ifCond .eq 5, 3) := by decide +kernel
theorem d_X11_order_9 : decode prog_1_method_22_code 9 = .ok (.iconst (-1), 1) := by decide +kernel
theorem d_X11_order_10 : decode prog_1_method_22_code 10 = .ok (.ireturn, 1) := by decide +kernel
theorem d_X11_order_11 : decode prog_1_method_22_code 11 = .ok (.iload_n 1, 1) := by decide +kernel
theorem d_X11_order_12 : decode prog_1_method_22_code 12 = .ok (.aload_n 0, 1) := by decide +kernel
theorem d_X11_order_13 : decode prog_1_method_22_code 13 = .ok (.getfield 60, 3) := by decide +kernel
theorem d_X11_order_16 : decode prog_1_method_22_code 16 = .ok (.getfield 101, 3) := by decide +kernel
theorem d_X11_order_19 : decode prog_1_method_22_code 19 = .ok (.if_icmp .lt 6, 3) := by decide +kernel
theorem d_X11_order_22 : decode prog_1_method_22_code 22 = .ok (.bipush (-5), 2) := by decide +kernel
theorem d_X11_order_24 : decode prog_1_method_22_code 24 = .ok (.ireturn, 1) := by decide +kernel
theorem d_X11_order_25 : decode prog_1_method_22_code 25 = .ok (.iconst 0, 1) := by decide +kernel
theorem d_X11_order_26 : decode prog_1_method_22_code 26 = .ok (.istore_n 2, 1) := by decide +kernel
theorem d_X11_order_27 : decode prog_1_method_22_code 27 = .ok (.iload_n 2, 1) := by decide +kernel
theorem d_X11_order_28 : decode prog_1_method_22_code 28 = .ok (.aload_n 0, 1) := by decide +kernel
theorem d_X11_order_29 : decode prog_1_method_22_code 29 = .ok (.getfield 60, 3) := by decide +kernel
theorem d_X11_order_32 : decode prog_1_method_22_code 32 = .ok (.getfield 101, 3) := by decide +kernel
theorem d_X11_order_35 : decode prog_1_method_22_code 35 = .ok (.if_icmp .ge 14, 3) := by decide +kernel
theorem d_X11_order_38 : decode prog_1_method_22_code 38 = .ok (.aload_n 0, 1) := by decide +kernel
theorem d_X11_order_39 : decode prog_1_method_22_code 39 = .ok (.iload_n 2, 1) := by decide +kernel
theorem d_X11_order_40 : decode prog_1_method_22_code 40 = .ok (.invokevirtual 223, 3) := by decide +kernel
theorem d_X11_order_43 : decode prog_1_method_22_code 43 = .ok (.iinc 2 1, 3) := by decide +kernel
theorem d_X11_order_46 : decode prog_1_method_22_code 46 = .ok (.goto (-19), 3) := by decide +kernel
theorem d_X11_order_49 : decode prog_1_method_22_code 49 = .ok (.aload_n 0, 1) := by decide +kernel
theorem d_X11_order_50 : decode prog_1_method_22_code 50 = .ok (.iconst (-1), 1) := by decide +kernel
theorem d_X11_order_51 : decode prog_1_method_22_code 51 = .ok (.putfield 226, 3) := by decide +kernel
theorem d_X11_order_54 : decode prog_1_method_22_code 54 = .ok (.aload_n 0, 1) := by decide +kernel
theorem d_X11_order_55 : decode prog_1_method_22_code 55 = .ok (.iconst 0, 1) := by decide +kernel
theorem d_X11_order_56 : decode prog_1_method_22_code 56 = .ok (.iconst 0, 1) := by decide +kernel
theorem d_X11_order_57 : decode prog_1_method_22_code 57 = .ok (.iconst 0, 1) := by decide +kernel
theorem d_X11_order_58 : decode prog_1_method_22_code 58 = .ok (.invokevirtual 229, 3) := by decide +kernel
theorem d_X11_order_61 : decode prog_1_method_22_code 61 = .ok (.iload_n 1, 1) := by decide +kernel
theorem d_X11_order_62 : decode prog_1_method_22_code 62 = .ok (.ifCond .ge 10, 3) := by decide +kernel
theorem d_X11_order_65 : decode prog_1_method_22_code 65 = .ok (.aload_n 0, 1) := by decide +kernel
theorem d_X11_order_66 : decode prog_1_method_22_code 66 = .ok (.getfield 226, 3) := by decide +kernel
theorem d_X11_order_69 : decode prog_1_method_22_code 69 = .ok (.goto 9, 3) := by decide +kernel
theorem d_X11_order_72 : decode prog_1_method_22_code 72 = .ok (.aload_n 0, 1) := by decide +kernel
theorem d_X11_order_73 : decode prog_1_method_22_code 73 = .ok (.getfield 33, 3) := by decide +kernel
theorem d_X11_order_76 : decode prog_1_method_22_code 76 = .ok (.iload_n 1, 1) := by decide +kernel
theorem d_X11_order_77 : decode prog_1_method_22_code 77 = .ok (.iaload, 1) := by decide +kernel
theorem d_X11_order_78 : decode prog_1_method_22_code 78 = .ok (.ireturn, 1) := by decide +kernel
def f_X11_order (a0 : Nat) (a1 : Int32) (μ : gm_M) : Option (Option Value × gm_M) := gm_bI (f_X11_isOutside a1 (-1 : Int32) (4 : Int32) μ) (fun x2 m1 => if x2 = 0 then gm_gR m1 [16] a0 1 (fun v3 => gm_gI m1 [13] v3 1 (fun v4 => if a1 < v4 then gm_loop (fun (s5 : Int32 × gm_M) => gm_gR s5.2 [16] a0 1 (fun v6 => gm_gI s5.2 [13] v6 1 (fun v7 => if v7 ≤ s5.1 then gm_pI s5.2 [16] a0 9 (-1 : Int32) (fun m8 => if gm_tag m8 a0 = 16 then gm_bV (f_X11_arrange a0 (0 : Int32) (0 : Int32) (0 : Int32) m8) (fun m9 => if 0 ≤ a1 then gm_gR m9 [16] a0 8 (fun v11 => gm_aI m9 v11 a1 (fun v12 => some (Sum.inr (some (.int v12), m9)))) else gm_gI m9 [16] a0 9 (fun v13 => some (Sum.inr (some (.int v13), m9)))) else none) else if gm_tag s5.2 a0 = 16 then gm_bV (f_X11_fillBehind a0 s5.1 s5.2) (fun m14 => some (Sum.inl ((s5.1 + (1 : Int32)), m14))) else none))) 5000 ((0 : Int32), m1) else some (some (.int (-5 : Int32)), m1))) else some (some (.int (-1 : Int32)), m1))
set_option maxHeartbeats 4000000 in
theorem c_X11_order (a0 : Nat) (a1 : Int32) (μ : gm_M) : gm_Call ({ cls := "GumBubble", name := "order", desc := "(I)I" } : Jvm.MethodName) prog_1_method_22_code 3 (some .int) 66 0 0 [.ref a0, .int a1] μ (f_X11_order a0 a1 μ) := by
  refine gm_start PN_11 (Nat.le_of_ble_eq_true rfl) (fun res μe => ?_)
  unfold f_X11_order
  show gm_A "GumBubble" (gm_nm "order") _ _ _ _ _ _ _ _ _ 0 [(0, .ref a0), (1, .int a1)] [] _ _
  refine gm_iload_n d_X11_order_0 rfl 1 rfl ?_
  refine gm_iconst (v := -1) d_X11_order_1 (by decide) ?_
  refine gm_iconst (v := 4) d_X11_order_2 (by decide) ?_
  refine gm_callS [.int a1, .int (-1 : Int32), .int (4 : Int32)] (c_X11_isOutside a1 (-1 : Int32) (4 : Int32) μ) B_X11_isOutside gw_296 rfl rfl rfl d_X11_order_3 (gm_kI (fun x2 m1 => ?_))
  refine gm_if_eq (tgt := 11) d_X11_order_6 (by decide) (fun h6 => ?_) (fun h6 => ?_)
  ·
    refine gm_iload_n d_X11_order_11 rfl 1 rfl ?_
    refine gm_aload_n d_X11_order_12 rfl 0 rfl ?_
    refine gm_getR F_11_now gw_262 d_X11_order_13 (fun v3 _ => ?_)
    refine gm_getI F_8_size gw_221 d_X11_order_16 (fun v4 _ => ?_)
    refine gm_icmp_lt (tgt := 25) d_X11_order_19 (by decide) (fun h19 => ?_) (fun h19 => ?_)
    ·
      refine gm_iconst (v := 0) d_X11_order_25 (by decide) ?_
      refine gm_istore_n (L' := [(2, .int (0 : Int32)), (0, .ref a0), (1, .int a1)]) d_X11_order_26 rfl (Nat.le_of_ble_eq_true rfl) rfl ?_
      refine gm_sub (L' := [(0, .ref a0), (1, .int a1), (2, .int (0 : Int32))]) [1, 2, 0] rfl ?_
      refine gm_lp (S := Int32 × gm_M) (fun _ => 0) (fun _ => 0) (fun s5 => s5.2) (fun s5 => [(0, .ref a0), (1, .int a1), (2, .int s5.1)]) (fun _ => []) (fun s5 => ?_) 5000 ((0 : Int32), m1)
      refine gm_iload_n d_X11_order_27 rfl 2 rfl ?_
      refine gm_aload_n d_X11_order_28 rfl 0 rfl ?_
      refine gm_getR F_11_now gw_262 d_X11_order_29 (fun v6 _ => ?_)
      refine gm_getI F_8_size gw_221 d_X11_order_32 (fun v7 _ => ?_)
      refine gm_icmp_ge (tgt := 49) d_X11_order_35 (by decide) (fun h35 => ?_) (fun h35 => ?_)
      ·
        refine gm_aload_n d_X11_order_49 rfl 0 rfl ?_
        refine gm_iconst (v := -1) d_X11_order_50 (by decide) ?_
        refine gm_putI F_11_bestSum (Or.inl rfl) gw_270 d_X11_order_51 (fun m8 _ => ?_)
        refine gm_aload_n d_X11_order_54 rfl 0 rfl ?_
        refine gm_iconst (v := 0) d_X11_order_55 (by decide) ?_
        refine gm_iconst (v := 0) d_X11_order_56 (by decide) ?_
        refine gm_iconst (v := 0) d_X11_order_57 (by decide) ?_
        refine gm_grd (fun g58 => ?_)
        refine gm_callV (k0 := 11) [.int (0 : Int32), .int (0 : Int32), .int (0 : Int32)] (c_X11_arrange a0 (0 : Int32) (0 : Int32) (0 : Int32) m8) g58 rfl B_X11_arrange gw_697 gs_21 rfl rfl rfl d_X11_order_58 (gm_kV (fun m9 => ?_))
        refine gm_iload_n d_X11_order_61 rfl 1 rfl ?_
        refine gm_if_ge (tgt := 72) d_X11_order_62 (by decide) (fun h62 => ?_) (fun h62 => ?_)
        ·
          refine gm_aload_n d_X11_order_72 rfl 0 rfl ?_
          refine gm_getR F_11_best gw_269 d_X11_order_73 (fun v11 _ => ?_)
          refine gm_iload_n d_X11_order_76 rfl 1 rfl ?_
          refine gm_iald d_X11_order_77 (fun v12 _ => ?_)
          exact gm_iret rfl d_X11_order_78 (Nat.le_of_ble_eq_true rfl) (Nat.le_of_ble_eq_true rfl) (fun h => h)
        ·
          refine gm_aload_n d_X11_order_65 rfl 0 rfl ?_
          refine gm_getI F_11_bestSum gw_270 d_X11_order_66 (fun v13 _ => ?_)
          refine gm_goto (tgt := 78) d_X11_order_69 (by decide) ?_
          exact gm_iret rfl d_X11_order_78 (Nat.le_of_ble_eq_true rfl) (Nat.le_of_ble_eq_true rfl) (fun h => h)
      ·
        refine gm_aload_n d_X11_order_38 rfl 0 rfl ?_
        refine gm_iload_n d_X11_order_39 rfl 2 rfl ?_
        refine gm_grd (fun g40 => ?_)
        refine gm_callV (k0 := 11) [.int s5.1] (c_X11_fillBehind a0 s5.1 s5.2) g40 rfl B_X11_fillBehind gw_693 gs_20 rfl rfl rfl d_X11_order_40 (gm_kV (fun m14 => ?_))
        refine gm_iinc (v := s5.1 + (1 : Int32)) (L' := [(2, .int (s5.1 + (1 : Int32))), (0, .ref a0), (1, .int a1)]) d_X11_order_43 2 rfl rfl (Nat.le_of_ble_eq_true rfl) rfl ?_
        refine gm_goto (tgt := 27) d_X11_order_46 (by decide) ?_
        refine gm_sub (L' := [(0, .ref a0), (1, .int a1), (2, .int (s5.1 + (1 : Int32)))]) [1, 2, 0] rfl ?_
        exact gm_back (fun h => h)
    ·
      refine gm_bipush (v := -5) d_X11_order_22 (by decide) ?_
      exact gm_iret rfl d_X11_order_24 (Nat.le_of_ble_eq_true rfl) (Nat.le_of_ble_eq_true rfl) (fun h => h)
  ·
    refine gm_iconst (v := -1) d_X11_order_9 (by decide) ?_
    exact gm_iret rfl d_X11_order_10 (Nat.le_of_ble_eq_true rfl) (Nat.le_of_ble_eq_true rfl) (fun h => h)
theorem d_X11_pass_0 : decode prog_1_method_10_code 0 = .ok (.iload_n 1, 1) := by decide +kernel
theorem d_X11_pass_1 : decode prog_1_method_10_code 1 = .ok (.iconst 0, 1) := by decide +kernel
theorem d_X11_pass_2 : decode prog_1_method_10_code 2 = .ok (.bipush 60, 2) := by decide +kernel
theorem d_X11_pass_4 : decode prog_1_method_10_code 4 = .ok (.invokestatic 76, 3) := by decide +kernel
theorem d_X11_pass_7 : decode prog_1_method_10_code 7 = .ok (.ifCond .eq 6, 3) := by decide +kernel
theorem d_X11_pass_10 : decode prog_1_method_10_code 10 = .ok (.bipush (-2), 2) := by decide +kernel
theorem d_X11_pass_12 : decode prog_1_method_10_code 12 = .ok (.ireturn, 1) := by decide +kernel
theorem d_X11_pass_13 : decode prog_1_method_10_code 13 = .ok (.aload_n 0, 1) := by decide +kernel
theorem d_X11_pass_14 : decode prog_1_method_10_code 14 = .ok (.getfield 60, 3) := by decide +kernel
theorem d_X11_pass_17 : decode prog_1_method_10_code 17 = .ok (.getfield 144, 3) := by decide +kernel
theorem d_X11_pass_20 : decode prog_1_method_10_code 20 = .ok (.iload_n 1, 1) := by decide +kernel
theorem d_X11_pass_21 : decode prog_1_method_10_code 21 = .ok (.iadd, 1) := by decide +kernel
theorem d_X11_pass_22 : decode prog_1_method_10_code 22 = .ok (.sipush 9999, 3) := by decide +kernel
theorem d_X11_pass_25 : decode prog_1_method_10_code 25 = .ok (.if_icmp .le 6, 3) := by decide +kernel
theorem d_X11_pass_28 : decode prog_1_method_10_code 28 = .ok (.bipush (-3), 2) := by decide +kernel
theorem d_X11_pass_30 : decode prog_1_method_10_code 30 = .ok (.ireturn, 1) := by decide +kernel
theorem d_X11_pass_31 : decode prog_1_method_10_code 31 = .ok (.iconst 0, 1) := by decide +kernel
theorem d_X11_pass_32 : decode prog_1_method_10_code 32 = .ok (.istore_n 2, 1) := by decide +kernel
theorem d_X11_pass_33 : decode prog_1_method_10_code 33 = .ok (.iload_n 2, 1) := by decide +kernel
theorem d_X11_pass_34 : decode prog_1_method_10_code 34 = .ok (.iload_n 1, 1) := by decide +kernel
theorem d_X11_pass_35 : decode prog_1_method_10_code 35 = .ok (.if_icmp .ge 60, 3) := by decide +kernel
theorem d_X11_pass_38 : decode prog_1_method_10_code 38 = .ok (.iconst 0, 1) := by decide +kernel
theorem d_X11_pass_39 : decode prog_1_method_10_code 39 = .ok (.istore_n 3, 1) := by decide +kernel
theorem d_X11_pass_40 : decode prog_1_method_10_code 40 = .ok (.iload_n 3, 1) := by decide +kernel
theorem d_X11_pass_41 : decode prog_1_method_10_code 41 = .ok (.aload_n 0, 1) := by decide +kernel
theorem d_X11_pass_42 : decode prog_1_method_10_code 42 = .ok (.getfield 60, 3) := by decide +kernel
theorem d_X11_pass_45 : decode prog_1_method_10_code 45 = .ok (.getfield 101, 3) := by decide +kernel
theorem d_X11_pass_48 : decode prog_1_method_10_code 48 = .ok (.if_icmp .ge 28, 3) := by decide +kernel
theorem d_X11_pass_51 : decode prog_1_method_10_code 51 = .ok (.aload_n 0, 1) := by decide +kernel
theorem d_X11_pass_52 : decode prog_1_method_10_code 52 = .ok (.getfield 60, 3) := by decide +kernel
theorem d_X11_pass_55 : decode prog_1_method_10_code 55 = .ok (.getfield 104, 3) := by decide +kernel
theorem d_X11_pass_58 : decode prog_1_method_10_code 58 = .ok (.iload_n 3, 1) := by decide +kernel
theorem d_X11_pass_59 : decode prog_1_method_10_code 59 = .ok (.aaload, 1) := by decide +kernel
theorem d_X11_pass_60 : decode prog_1_method_10_code 60 = .ok (.aload_n 0, 1) := by decide +kernel
theorem d_X11_pass_61 : decode prog_1_method_10_code 61 = .ok (.getfield 60, 3) := by decide +kernel
theorem d_X11_pass_64 : decode prog_1_method_10_code 64 = .ok (.getfield 144, 3) := by decide +kernel
theorem d_X11_pass_67 : decode prog_1_method_10_code 67 = .ok (.invokevirtual 179, 3) := by decide +kernel
theorem d_X11_pass_70 : decode prog_1_method_10_code 70 = .ok (.iinc 3 1, 3) := by decide +kernel
theorem d_X11_pass_73 : decode prog_1_method_10_code 73 = .ok (.goto (-33), 3) := by decide +kernel
theorem d_X11_pass_76 : decode prog_1_method_10_code 76 = .ok (.aload_n 0, 1) := by decide +kernel
theorem d_X11_pass_77 : decode prog_1_method_10_code 77 = .ok (.getfield 60, 3) := by decide +kernel
theorem d_X11_pass_80 : decode prog_1_method_10_code 80 = .ok (.dup, 1) := by decide +kernel
theorem d_X11_pass_81 : decode prog_1_method_10_code 81 = .ok (.getfield 144, 3) := by decide +kernel
theorem d_X11_pass_84 : decode prog_1_method_10_code 84 = .ok (.iconst 1, 1) := by decide +kernel
theorem d_X11_pass_85 : decode prog_1_method_10_code 85 = .ok (.iadd, 1) := by decide +kernel
theorem d_X11_pass_86 : decode prog_1_method_10_code 86 = .ok (.putfield 144, 3) := by decide +kernel
theorem d_X11_pass_89 : decode prog_1_method_10_code 89 = .ok (.iinc 2 1, 3) := by decide +kernel
theorem d_X11_pass_92 : decode prog_1_method_10_code 92 = .ok (.goto (-59), 3) := by decide +kernel
theorem d_X11_pass_95 : decode prog_1_method_10_code 95 = .ok (.aload_n 0, 1) := by decide +kernel
theorem d_X11_pass_96 : decode prog_1_method_10_code 96 = .ok (.getfield 60, 3) := by decide +kernel
theorem d_X11_pass_99 : decode prog_1_method_10_code 99 = .ok (.getfield 144, 3) := by decide +kernel
theorem d_X11_pass_102 : decode prog_1_method_10_code 102 = .ok (.ireturn, 1) := by decide +kernel
def f_X11_pass (a0 : Nat) (a1 : Int32) (μ : gm_M) : Option (Option Value × gm_M) := gm_bI (f_X11_isOutside a1 (0 : Int32) (60 : Int32) μ) (fun x2 m1 => if x2 = 0 then gm_gR m1 [16] a0 1 (fun v3 => gm_gI m1 [13] v3 0 (fun v4 => if (v4 + a1) ≤ (9999 : Int32) then gm_loop (fun (s5 : Int32 × gm_M) => if a1 ≤ s5.1 then gm_gR s5.2 [16] a0 1 (fun v6 => gm_gI s5.2 [13] v6 0 (fun v7 => some (Sum.inr (some (.int v7), s5.2)))) else gm_loop (fun (s8 : Int32 × gm_M) => gm_gR s8.2 [16] a0 1 (fun v9 => gm_gI s8.2 [13] v9 1 (fun v10 => if v10 ≤ s8.1 then gm_gR s8.2 [16] a0 1 (fun v11 => gm_gI s8.2 [13] v11 0 (fun v12 => gm_pI s8.2 [13] v11 0 (v12 + (1 : Int32)) (fun m13 => some (Sum.inr (Sum.inl ((s5.1 + (1 : Int32)), m13)))))) else gm_gR s8.2 [16] a0 1 (fun v14 => gm_gR s8.2 [13] v14 2 (fun v15 => gm_aR s8.2 4 v15 s8.1 (fun v16 => gm_gR s8.2 [16] a0 1 (fun v17 => gm_gI s8.2 [13] v17 0 (fun v18 => if gm_tag s8.2 v16 = 7 then gm_bV (f_X2_passMinute v16 v18 s8.2) (fun m19 => some (Sum.inl ((s8.1 + (1 : Int32)), m19))) else none)))))))) 5000 ((0 : Int32), s5.2)) 5000 ((0 : Int32), m1) else some (some (.int (-3 : Int32)), m1))) else some (some (.int (-2 : Int32)), m1))
set_option maxHeartbeats 4000000 in
theorem c_X11_pass (a0 : Nat) (a1 : Int32) (μ : gm_M) : gm_Call ({ cls := "GumBubble", name := "pass", desc := "(I)I" } : Jvm.MethodName) prog_1_method_10_code 4 (some .int) 4 0 0 [.ref a0, .int a1] μ (f_X11_pass a0 a1 μ) := by
  refine gm_start PN_11 (Nat.le_of_ble_eq_true rfl) (fun res μe => ?_)
  unfold f_X11_pass
  show gm_A "GumBubble" (gm_nm "pass") _ _ _ _ _ _ _ _ _ 0 [(0, .ref a0), (1, .int a1)] [] _ _
  refine gm_iload_n d_X11_pass_0 rfl 1 rfl ?_
  refine gm_iconst (v := 0) d_X11_pass_1 (by decide) ?_
  refine gm_bipush (v := 60) d_X11_pass_2 (by decide) ?_
  refine gm_callS [.int a1, .int (0 : Int32), .int (60 : Int32)] (c_X11_isOutside a1 (0 : Int32) (60 : Int32) μ) B_X11_isOutside gw_296 rfl rfl rfl d_X11_pass_4 (gm_kI (fun x2 m1 => ?_))
  refine gm_if_eq (tgt := 13) d_X11_pass_7 (by decide) (fun h7 => ?_) (fun h7 => ?_)
  ·
    refine gm_aload_n d_X11_pass_13 rfl 0 rfl ?_
    refine gm_getR F_11_now gw_262 d_X11_pass_14 (fun v3 _ => ?_)
    refine gm_getI F_8_minute gw_219 d_X11_pass_17 (fun v4 _ => ?_)
    refine gm_iload_n d_X11_pass_20 rfl 1 rfl ?_
    refine gm_iadd d_X11_pass_21 ?_
    refine gm_sipush (v := 9999) d_X11_pass_22 (by decide) ?_
    refine gm_icmp_le (tgt := 31) d_X11_pass_25 (by decide) (fun h25 => ?_) (fun h25 => ?_)
    ·
      refine gm_iconst (v := 0) d_X11_pass_31 (by decide) ?_
      refine gm_istore_n (L' := [(2, .int (0 : Int32)), (0, .ref a0), (1, .int a1)]) d_X11_pass_32 rfl (Nat.le_of_ble_eq_true rfl) rfl ?_
      refine gm_sub (L' := [(0, .ref a0), (1, .int a1), (2, .int (0 : Int32))]) [1, 2, 0] rfl ?_
      refine gm_lp (S := Int32 × gm_M) (fun _ => 0) (fun _ => 0) (fun s5 => s5.2) (fun s5 => [(0, .ref a0), (1, .int a1), (2, .int s5.1)]) (fun _ => []) (fun s5 => ?_) 5000 ((0 : Int32), m1)
      refine gm_iload_n d_X11_pass_33 rfl 2 rfl ?_
      refine gm_iload_n d_X11_pass_34 rfl 1 rfl ?_
      refine gm_icmp_ge (tgt := 95) d_X11_pass_35 (by decide) (fun h35 => ?_) (fun h35 => ?_)
      ·
        refine gm_aload_n d_X11_pass_95 rfl 0 rfl ?_
        refine gm_getR F_11_now gw_262 d_X11_pass_96 (fun v6 _ => ?_)
        refine gm_getI F_8_minute gw_219 d_X11_pass_99 (fun v7 _ => ?_)
        exact gm_iret rfl d_X11_pass_102 (Nat.le_of_ble_eq_true rfl) (Nat.le_of_ble_eq_true rfl) (fun h => h)
      ·
        refine gm_iconst (v := 0) d_X11_pass_38 (by decide) ?_
        refine gm_istore_n (L' := [(3, .int (0 : Int32)), (0, .ref a0), (1, .int a1), (2, .int s5.1)]) d_X11_pass_39 rfl (Nat.le_of_ble_eq_true rfl) rfl ?_
        refine gm_sub (L' := [(0, .ref a0), (1, .int a1), (2, .int s5.1), (3, .int (0 : Int32))]) [1, 2, 3, 0] rfl ?_
        refine gm_lp (S := Int32 × gm_M) (fun _ => 0) (fun _ => 0) (fun s8 => s8.2) (fun s8 => [(0, .ref a0), (1, .int a1), (2, .int s5.1), (3, .int s8.1)]) (fun _ => []) (fun s8 => ?_) 5000 ((0 : Int32), s5.2)
        refine gm_iload_n d_X11_pass_40 rfl 3 rfl ?_
        refine gm_aload_n d_X11_pass_41 rfl 0 rfl ?_
        refine gm_getR F_11_now gw_262 d_X11_pass_42 (fun v9 _ => ?_)
        refine gm_getI F_8_size gw_221 d_X11_pass_45 (fun v10 _ => ?_)
        refine gm_icmp_ge (tgt := 76) d_X11_pass_48 (by decide) (fun h48 => ?_) (fun h48 => ?_)
        ·
          refine gm_aload_n d_X11_pass_76 rfl 0 rfl ?_
          refine gm_getR F_11_now gw_262 d_X11_pass_77 (fun v11 _ => ?_)
          refine gm_dup d_X11_pass_80 rfl ?_
          refine gm_getI F_8_minute gw_219 d_X11_pass_81 (fun v12 _ => ?_)
          refine gm_iconst (v := 1) d_X11_pass_84 (by decide) ?_
          refine gm_iadd d_X11_pass_85 ?_
          refine gm_putI F_8_minute (Or.inl rfl) gw_219 d_X11_pass_86 (fun m13 _ => ?_)
          refine gm_iinc (v := s5.1 + (1 : Int32)) (L' := [(2, .int (s5.1 + (1 : Int32))), (0, .ref a0), (1, .int a1), (3, .int s8.1)]) d_X11_pass_89 2 rfl rfl (Nat.le_of_ble_eq_true rfl) rfl ?_
          refine gm_goto (tgt := 33) d_X11_pass_92 (by decide) ?_
          refine gm_sub (L' := [(0, .ref a0), (1, .int a1), (2, .int (s5.1 + (1 : Int32)))]) [1, 2, 0] rfl ?_
          exact gm_back (fun h => h)
        ·
          refine gm_aload_n d_X11_pass_51 rfl 0 rfl ?_
          refine gm_getR F_11_now gw_262 d_X11_pass_52 (fun v14 _ => ?_)
          refine gm_getR F_8_children gw_223 d_X11_pass_55 (fun v15 _ => ?_)
          refine gm_iload_n d_X11_pass_58 rfl 3 rfl ?_
          refine gm_aald (Or.inr rfl) d_X11_pass_59 (fun v16 _ => ?_)
          refine gm_aload_n d_X11_pass_60 rfl 0 rfl ?_
          refine gm_getR F_11_now gw_262 d_X11_pass_61 (fun v17 _ => ?_)
          refine gm_getI F_8_minute gw_219 d_X11_pass_64 (fun v18 _ => ?_)
          refine gm_grd (fun g67 => ?_)
          refine gm_callV (k0 := 2) [.int v18] (c_X2_passMinute v16 v18 s8.2) g67 rfl B_X2_passMinute gw_596 gw_598 rfl rfl rfl d_X11_pass_67 (gm_kV (fun m19 => ?_))
          refine gm_iinc (v := s8.1 + (1 : Int32)) (L' := [(3, .int (s8.1 + (1 : Int32))), (0, .ref a0), (1, .int a1), (2, .int s5.1)]) d_X11_pass_70 3 rfl rfl (Nat.le_of_ble_eq_true rfl) rfl ?_
          refine gm_goto (tgt := 40) d_X11_pass_73 (by decide) ?_
          refine gm_sub (L' := [(0, .ref a0), (1, .int a1), (2, .int s5.1), (3, .int (s8.1 + (1 : Int32)))]) [1, 2, 3, 0] rfl ?_
          exact gm_back (fun h => h)
    ·
      refine gm_bipush (v := -3) d_X11_pass_28 (by decide) ?_
      exact gm_iret rfl d_X11_pass_30 (Nat.le_of_ble_eq_true rfl) (Nat.le_of_ble_eq_true rfl) (fun h => h)
  ·
    refine gm_bipush (v := -2) d_X11_pass_10 (by decide) ?_
    exact gm_iret rfl d_X11_pass_12 (Nat.le_of_ble_eq_true rfl) (Nat.le_of_ble_eq_true rfl) (fun h => h)
