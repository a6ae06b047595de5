theorem d_X11_trialWhen_0 : decode prog_1_method_46_code 0 = .ok (.iconst (-1), 1) := by decide +kernel
theorem d_X11_trialWhen_1 : decode prog_1_method_46_code 1 = .ok (.istore_n 2, 1) := by decide +kernel
theorem d_X11_trialWhen_2 : decode prog_1_method_46_code 2 = .ok (.iconst 0, 1) := by decide +kernel
theorem d_X11_trialWhen_3 : decode prog_1_method_46_code 3 = .ok (.istore_n 3, 1) := by decide +kernel
theorem d_X11_trialWhen_4 : decode prog_1_method_46_code 4 = .ok (.iconst 0, 1) := by decide +kernel
theorem d_X11_trialWhen_5 : decode prog_1_method_46_code 5 = .ok (.istore 4, 2) := by decide +kernel
theorem d_X11_trialWhen_7 : decode prog_1_method_46_code 7 = .ok (.iload 4, 2) := by decide +kernel
theorem d_X11_trialWhen_9 : decode prog_1_method_46_code 9 = .ok (.bipush 60, 2) := by decide +kernel
theorem d_X11_trialWhen_11 : decode prog_1_method_46_code 11 = .ok (.if_icmp .gt 64, 3) := by decide +kernel
theorem d_X11_trialWhen_14 : decode prog_1_method_46_code 14 = .ok (.aload_n 0, 1) := by decide +kernel
theorem d_X11_trialWhen_15 : decode prog_1_method_46_code 15 = .ok (.getfield 72, 3) := by decide +kernel
theorem d_X11_trialWhen_18 : decode prog_1_method_46_code 18 = .ok (.aload_n 0, 1) := by decide +kernel
theorem d_X11_trialWhen_19 : decode prog_1_method_46_code 19 = .ok (.getfield 60, 3) := by decide +kernel
theorem d_X11_trialWhen_22 : decode prog_1_method_46_code 22 = .ok (.getfield 97, 3) := by decide +kernel
theorem d_X11_trialWhen_25 : decode prog_1_method_46_code 25 = .ok (.aload_n 0, 1) := by decide +kernel
theorem d_X11_trialWhen_26 : decode prog_1_method_46_code 26 = .ok (.getfield 60, 3) := by decide +kernel
theorem d_X11_trialWhen_29 : decode prog_1_method_46_code 29 = .ok (.getfield 144, 3) := by decide +kernel
theorem d_X11_trialWhen_32 : decode prog_1_method_46_code 32 = .ok (.iload 4, 2) := by decide +kernel
theorem d_X11_trialWhen_34 : decode prog_1_method_46_code 34 = .ok (.iadd, 1) := by decide +kernel
theorem d_X11_trialWhen_35 : decode prog_1_method_46_code 35 = .ok (.invokevirtual 193, 3) := by decide +kernel
theorem d_X11_trialWhen_38 : decode prog_1_method_46_code 38 = .ok (.istore 5, 2) := by decide +kernel
theorem d_X11_trialWhen_40 : decode prog_1_method_46_code 40 = .ok (.iload 5, 2) := by decide +kernel
theorem d_X11_trialWhen_42 : decode prog_1_method_46_code 42 = .ok (.iload_n 2, 1) := by decide +kernel
theorem d_X11_trialWhen_43 : decode prog_1_method_46_code 43 = .ok (.if_icmp .le 9, 3) := by decide +kernel
theorem d_X11_trialWhen_46 : decode prog_1_method_46_code 46 = .ok (.iload 5, 2) := by decide +kernel
theorem d_X11_trialWhen_48 : decode prog_1_method_46_code 48 = .ok (.istore_n 2, 1) := by decide +kernel
theorem d_X11_trialWhen_49 : decode prog_1_method_46_code 49 = .ok (.iload 4, 2) := by decide +kernel
theorem d_X11_trialWhen_51 : decode prog_1_method_46_code 51 = .ok (.istore_n 3, 1) := by decide +kernel
theorem d_X11_trialWhen_52 : decode prog_1_method_46_code 52 = .ok (.aload_n 0, 1) := by decide +kernel
theorem d_X11_trialWhen_53 : decode prog_1_method_46_code 53 = .ok (.getfield 72, 3) := by decide +kernel
theorem d_X11_trialWhen_56 : decode prog_1_method_46_code 56 = .ok (.aload_n 0, 1) := by decide +kernel
theorem d_X11_trialWhen_57 : decode prog_1_method_46_code 57 = .ok (.getfield 60, 3) := by decide +kernel
theorem d_X11_trialWhen_60 : decode prog_1_method_46_code 60 = .ok (.getfield 144, 3) := by decide +kernel
theorem d_X11_trialWhen_63 : decode prog_1_method_46_code 63 = .ok (.iload 4, 2) := by decide +kernel
theorem d_X11_trialWhen_65 : decode prog_1_method_46_code 65 = .ok (.iadd, 1) := by decide +kernel
theorem d_X11_trialWhen_66 : decode prog_1_method_46_code 66 = .ok (.invokevirtual 179, 3) := by decide +kernel
theorem d_X11_trialWhen_69 : decode prog_1_method_46_code 69 = .ok (.iinc 4 1, 3) := by decide +kernel
theorem d_X11_trialWhen_72 : decode prog_1_method_46_code 72 = .ok (.goto (-65), 3) := by decide +kernel
theorem d_X11_trialWhen_75 : decode prog_1_method_46_code 75 = .ok (.iload_n 1, 1) := by decide +kernel
theorem d_X11_trialWhen_76 : decode prog_1_method_46_code 76 = .ok (.ifCond .ne 7, 3) := by decide +kernel
theorem d_X11_trialWhen_79 : decode prog_1_method_46_code 79 = .ok (.iload_n 3, 1) := by decide +kernel
theorem d_X11_trialWhen_80 : decode prog_1_method_46_code 80 = .ok (.goto 4, 3) := by decide +kernel
theorem d_X11_trialWhen_83 : decode prog_1_method_46_code 83 = .ok (.iload_n 2, 1) := by decide +kernel
theorem d_X11_trialWhen_84 : decode prog_1_method_46_code 84 = .ok (.ireturn, 1) := by decide +kernel
def f_X11_trialWhen (a0 : Nat) (a1 : Int32) (μ : gm_M) : Option (Option Value × gm_M) := gm_loop (fun (s1 : Int32 × Int32 × Int32 × gm_M) => if (60 : Int32) < s1.2.2.1 then if a1 ≠ 0 then some (Sum.inr (some (.int s1.1), s1.2.2.2)) else some (Sum.inr (some (.int s1.2.1), s1.2.2.2)) else gm_gR s1.2.2.2 [16] a0 5 (fun v2 => gm_gR s1.2.2.2 [16] a0 1 (fun v3 => gm_gR s1.2.2.2 [13] v3 6 (fun v4 => gm_gR s1.2.2.2 [16] a0 1 (fun v5 => gm_gI s1.2.2.2 [13] v5 0 (fun v6 => if gm_tag s1.2.2.2 v2 = 7 then gm_bI (f_X2_holds v2 v4 (v6 + s1.2.2.1) s1.2.2.2) (fun x8 m7 => gm_j (fun (s9 : Int32 × Int32) => gm_gR m7 [16] a0 5 (fun v11 => gm_gR m7 [16] a0 1 (fun v12 => gm_gI m7 [13] v12 0 (fun v13 => if gm_tag m7 v11 = 7 then gm_bV (f_X2_passMinute v11 (v13 + s1.2.2.1) m7) (fun m14 => some (Sum.inl (s9.1, s9.2, (s1.2.2.1 + (1 : Int32)), m14))) else none)))) (fun j10 => if x8 ≤ s1.1 then j10 (s1.1, s1.2.1) else j10 (x8, s1.2.2.1))) else none)))))) 5000 ((-1 : Int32), (0 : Int32), (0 : Int32), μ)
set_option maxHeartbeats 4000000 in
theorem c_X11_trialWhen (a0 : Nat) (a1 : Int32) (μ : gm_M) : gm_Call ({ cls := "GumBubble", name := "trialWhen", desc := "(I)I" } : Jvm.MethodName) prog_1_method_46_code 6 (some .int) 4 0 0 [.ref a0, .int a1] μ (f_X11_trialWhen a0 a1 μ) := by
  refine gm_start PN_11 (Nat.le_of_ble_eq_true rfl) (fun res μe => ?_)
  unfold f_X11_trialWhen
  show gm_A "GumBubble" (gm_nm "trialWhen") _ _ _ _ _ _ _ _ _ 0 [(0, .ref a0), (1, .int a1)] [] _ _
  refine gm_iconst (v := -1) d_X11_trialWhen_0 (by decide) ?_
  refine gm_istore_n (L' := [(2, .int (-1 : Int32)), (0, .ref a0), (1, .int a1)]) d_X11_trialWhen_1 rfl (Nat.le_of_ble_eq_true rfl) rfl ?_
  refine gm_iconst (v := 0) d_X11_trialWhen_2 (by decide) ?_
  refine gm_istore_n (L' := [(3, .int (0 : Int32)), (2, .int (-1 : Int32)), (0, .ref a0), (1, .int a1)]) d_X11_trialWhen_3 rfl (Nat.le_of_ble_eq_true rfl) rfl ?_
  refine gm_iconst (v := 0) d_X11_trialWhen_4 (by decide) ?_
  refine gm_istore (L' := [(4, .int (0 : Int32)), (3, .int (0 : Int32)), (2, .int (-1 : Int32)), (0, .ref a0), (1, .int a1)]) d_X11_trialWhen_5 (Nat.le_of_ble_eq_true rfl) rfl ?_
  refine gm_sub (L' := [(0, .ref a0), (1, .int a1), (2, .int (-1 : Int32)), (3, .int (0 : Int32)), (4, .int (0 : Int32))]) [3, 4, 2, 1, 0] rfl ?_
  refine gm_lp (S := Int32 × Int32 × Int32 × gm_M) (fun _ => 0) (fun _ => 0) (fun s1 => s1.2.2.2) (fun s1 => [(0, .ref a0), (1, .int a1), (2, .int s1.1), (3, .int s1.2.1), (4, .int s1.2.2.1)]) (fun _ => []) (fun s1 => ?_) 5000 ((-1 : Int32), (0 : Int32), (0 : Int32), μ)
  refine gm_iload d_X11_trialWhen_7 4 rfl ?_
  refine gm_bipush (v := 60) d_X11_trialWhen_9 (by decide) ?_
  refine gm_icmp_gt (tgt := 75) d_X11_trialWhen_11 (by decide) (fun h11 => ?_) (fun h11 => ?_)
  ·
    refine gm_iload_n d_X11_trialWhen_75 rfl 1 rfl ?_
    refine gm_if_ne (tgt := 83) d_X11_trialWhen_76 (by decide) (fun h76 => ?_) (fun h76 => ?_)
    ·
      refine gm_iload_n d_X11_trialWhen_83 rfl 2 rfl ?_
      exact gm_iret rfl d_X11_trialWhen_84 (Nat.le_of_ble_eq_true rfl) (Nat.le_of_ble_eq_true rfl) (fun h => h)
    ·
      refine gm_iload_n d_X11_trialWhen_79 rfl 3 rfl ?_
      refine gm_goto (tgt := 84) d_X11_trialWhen_80 (by decide) ?_
      exact gm_iret rfl d_X11_trialWhen_84 (Nat.le_of_ble_eq_true rfl) (Nat.le_of_ble_eq_true rfl) (fun h => h)
  ·
    refine gm_aload_n d_X11_trialWhen_14 rfl 0 rfl ?_
    refine gm_getR F_11_trial gw_266 d_X11_trialWhen_15 (fun v2 _ => ?_)
    refine gm_aload_n d_X11_trialWhen_18 rfl 0 rfl ?_
    refine gm_getR F_11_now gw_262 d_X11_trialWhen_19 (fun v3 _ => ?_)
    refine gm_getR F_8_afternoon gw_231 d_X11_trialWhen_22 (fun v4 _ => ?_)
    refine gm_aload_n d_X11_trialWhen_25 rfl 0 rfl ?_
    refine gm_getR F_11_now gw_262 d_X11_trialWhen_26 (fun v5 _ => ?_)
    refine gm_getI F_8_minute gw_219 d_X11_trialWhen_29 (fun v6 _ => ?_)
    refine gm_iload d_X11_trialWhen_32 4 rfl ?_
    refine gm_iadd d_X11_trialWhen_34 ?_
    refine gm_grd (fun g35 => ?_)
    refine gm_callV (k0 := 2) [.ref v4, .int (v6 + s1.2.2.1)] (c_X2_holds v2 v4 (v6 + s1.2.2.1) s1.2.2.2) g35 rfl B_X2_holds gw_545 gw_547 rfl rfl rfl d_X11_trialWhen_35 (gm_kI (fun x8 m7 => ?_))
    refine gm_istore (L' := [(5, .int x8), (0, .ref a0), (1, .int a1), (2, .int s1.1), (3, .int s1.2.1), (4, .int s1.2.2.1)]) d_X11_trialWhen_38 (Nat.le_of_ble_eq_true rfl) rfl ?_
    refine gm_iload d_X11_trialWhen_40 0 rfl ?_
    refine gm_iload_n d_X11_trialWhen_42 rfl 3 rfl ?_
    refine gm_join (S := Int32 × Int32) (pj := 52) (kj := 0) (nj := 0) (fun s9 => m7) (fun s9 => [(0, .ref a0), (1, .int a1), (2, .int s9.1), (3, .int s9.2), (4, .int s1.2.2.1), (5, .int x8)]) (fun s9 => []) (fun s9 => ?_) (fun j10 hj10 => ?_)
    ·
      refine gm_aload_n d_X11_trialWhen_52 rfl 0 rfl ?_
      refine gm_getR F_11_trial gw_266 d_X11_trialWhen_53 (fun v11 _ => ?_)
      refine gm_aload_n d_X11_trialWhen_56 rfl 0 rfl ?_
      refine gm_getR F_11_now gw_262 d_X11_trialWhen_57 (fun v12 _ => ?_)
      refine gm_getI F_8_minute gw_219 d_X11_trialWhen_60 (fun v13 _ => ?_)
      refine gm_iload d_X11_trialWhen_63 4 rfl ?_
      refine gm_iadd d_X11_trialWhen_65 ?_
      refine gm_grd (fun g66 => ?_)
      refine gm_callV (k0 := 2) [.int (v13 + s1.2.2.1)] (c_X2_passMinute v11 (v13 + s1.2.2.1) m7) g66 rfl B_X2_passMinute gw_596 gw_598 rfl rfl rfl d_X11_trialWhen_66 (gm_kV (fun m14 => ?_))
      refine gm_iinc (v := s1.2.2.1 + (1 : Int32)) (L' := [(4, .int (s1.2.2.1 + (1 : Int32))), (0, .ref a0), (1, .int a1), (2, .int s9.1), (3, .int s9.2), (5, .int x8)]) d_X11_trialWhen_69 4 rfl rfl (Nat.le_of_ble_eq_true rfl) rfl ?_
      refine gm_goto (tgt := 7) d_X11_trialWhen_72 (by decide) ?_
      refine gm_sub (L' := [(0, .ref a0), (1, .int a1), (2, .int s9.1), (3, .int s9.2), (4, .int (s1.2.2.1 + (1 : Int32)))]) [1, 2, 3, 4, 0] rfl ?_
      exact gm_back (fun h => h)
    ·
      refine gm_icmp_le (tgt := 52) d_X11_trialWhen_43 (by decide) (fun h43 => ?_) (fun h43 => ?_)
      ·
        refine gm_sub (L' := [(0, .ref a0), (1, .int a1), (2, .int s1.1), (3, .int s1.2.1), (4, .int s1.2.2.1), (5, .int x8)]) [1, 2, 3, 4, 5, 0] rfl ?_
        exact hj10 (s1.1, s1.2.1)
      ·
        refine gm_iload d_X11_trialWhen_46 0 rfl ?_
        refine gm_istore_n (L' := [(2, .int x8), (5, .int x8), (0, .ref a0), (1, .int a1), (3, .int s1.2.1), (4, .int s1.2.2.1)]) d_X11_trialWhen_48 rfl (Nat.le_of_ble_eq_true rfl) rfl ?_
        refine gm_iload d_X11_trialWhen_49 5 rfl ?_
        refine gm_istore_n (L' := [(3, .int s1.2.2.1), (2, .int x8), (5, .int x8), (0, .ref a0), (1, .int a1), (4, .int s1.2.2.1)]) d_X11_trialWhen_51 rfl (Nat.le_of_ble_eq_true rfl) rfl ?_
        refine gm_sub (L' := [(0, .ref a0), (1, .int a1), (2, .int x8), (3, .int s1.2.2.1), (4, .int s1.2.2.1), (5, .int x8)]) [3, 4, 1, 0, 5, 2] rfl ?_
        exact hj10 (x8, s1.2.2.1)
theorem d_X11_pieces_0 : decode prog_1_method_14_code 0 = .ok (.aload_n 0, 1) := by decide +kernel
theorem d_X11_pieces_1 : decode prog_1_method_14_code 1 = .ok (.iload_n 1, 1) := by decide +kernel
theorem d_X11_pieces_2 : decode prog_1_method_14_code 2 = .ok (.invokevirtual 115, 3) := by decide +kernel
theorem d_X11_pieces_5 : decode prog_1_method_14_code 5 = .ok (.ifCond .ne 12, 3) := by decide +kernel
theorem d_X11_pieces_8 : decode prog_1_method_14_code 8 = .ok (.iload_n 2, 1) := by decide +kernel
theorem d_X11_pieces_9 : decode prog_1_method_14_code 9 = .ok (.iconst 0, 1) := by decide +kernel
theorem d_X11_pieces_10 : decode prog_1_method_14_code 10 = .ok (.iconst 1, 1) := by decide +kernel
theorem d_X11_pieces_11 : decode prog_1_method_14_code 11 = .ok (.invokestatic 76, 3) := by decide +kernel
theorem d_X11_pieces_14 : decode prog_1_method_14_code 14 = .ok (.ifCond .eq 5, 3) := by decide +kernel
theorem d_X11_pieces_17 : decode prog_1_method_14_code 17 = .ok (.iconst (-1), 1) := by decide +kernel
theorem d_X11_pieces_18 : decode prog_1_method_14_code 18 = .ok (.ireturn, 1) := by decide +kernel
theorem d_X11_pieces_19 : decode prog_1_method_14_code 19 = .ok (.iconst (-1), 1) := by decide +kernel
theorem d_X11_pieces_20 : decode prog_1_method_14_code 20 = .ok (.istore_n 3, 1) := by decide +kernel
theorem d_X11_pieces_21 : decode prog_1_method_14_code 21 = .ok (.iconst 0, 1) := by decide +kernel
theorem d_X11_pieces_22 : decode prog_1_method_14_code 22 = .ok (.istore 4, 2) := by decide +kernel
theorem d_X11_pieces_24 : decode prog_1_method_14_code 24 = .ok (.iconst 0, 1) := by decide +kernel
theorem d_X11_pieces_25 : decode prog_1_method_14_code 25 = .ok (.istore 5, 2) := by decide +kernel
theorem d_X11_pieces_27 : decode prog_1_method_14_code 27 = .ok (.iload 5, 2) := by decide +kernel
theorem d_X11_pieces_29 : decode prog_1_method_14_code 29 = .ok (.bipush 6, 2) := by decide +kernel
theorem d_X11_pieces_31 : decode prog_1_method_14_code 31 = .ok (.if_icmp .gt 82, 3) := by decide +kernel
theorem d_X11_pieces_34 : decode prog_1_method_14_code 34 = .ok (.aload_n 0, 1) := by decide +kernel
theorem d_X11_pieces_35 : decode prog_1_method_14_code 35 = .ok (.getfield 72, 3) := by decide +kernel
theorem d_X11_pieces_38 : decode prog_1_method_14_code 38 = .ok (.aload_n 0, 1) := by decide +kernel
theorem d_X11_pieces_39 : decode prog_1_method_14_code 39 = .ok (.getfield 60, 3) := by decide +kernel
theorem d_X11_pieces_42 : decode prog_1_method_14_code 42 = .ok (.getfield 104, 3) := by decide +kernel
theorem d_X11_pieces_45 : decode prog_1_method_14_code 45 = .ok (.iload_n 1, 1) := by decide +kernel
theorem d_X11_pieces_46 : decode prog_1_method_14_code 46 = .ok (.aaload, 1) := by decide +kernel
theorem d_X11_pieces_47 : decode prog_1_method_14_code 47 = .ok (.invokevirtual 186, 3) := by decide +kernel
theorem d_X11_pieces_50 : decode prog_1_method_14_code 50 = .ok (.aload_n 0, 1) := by decide +kernel
theorem d_X11_pieces_51 : decode prog_1_method_14_code 51 = .ok (.getfield 72, 3) := by decide +kernel
theorem d_X11_pieces_54 : decode prog_1_method_14_code 54 = .ok (.iload 5, 2) := by decide +kernel
theorem d_X11_pieces_56 : decode prog_1_method_14_code 56 = .ok (.putfield 129, 3) := by decide +kernel
theorem d_X11_pieces_59 : decode prog_1_method_14_code 59 = .ok (.aload_n 0, 1) := by decide +kernel
theorem d_X11_pieces_60 : decode prog_1_method_14_code 60 = .ok (.getfield 72, 3) := by decide +kernel
theorem d_X11_pieces_63 : decode prog_1_method_14_code 63 = .ok (.aload_n 0, 1) := by decide +kernel
theorem d_X11_pieces_64 : decode prog_1_method_14_code 64 = .ok (.getfield 60, 3) := by decide +kernel
theorem d_X11_pieces_67 : decode prog_1_method_14_code 67 = .ok (.getfield 97, 3) := by decide +kernel
theorem d_X11_pieces_70 : decode prog_1_method_14_code 70 = .ok (.getfield 108, 3) := by decide +kernel
theorem d_X11_pieces_73 : decode prog_1_method_14_code 73 = .ok (.iload 5, 2) := by decide +kernel
theorem d_X11_pieces_75 : decode prog_1_method_14_code 75 = .ok (.imul, 1) := by decide +kernel
theorem d_X11_pieces_76 : decode prog_1_method_14_code 76 = .ok (.putfield 132, 3) := by decide +kernel
theorem d_X11_pieces_79 : decode prog_1_method_14_code 79 = .ok (.aload_n 0, 1) := by decide +kernel
theorem d_X11_pieces_80 : decode prog_1_method_14_code 80 = .ok (.getfield 72, 3) := by decide +kernel
theorem d_X11_pieces_83 : decode prog_1_method_14_code 83 = .ok (.iconst 0, 1) := by decide +kernel
theorem d_X11_pieces_84 : decode prog_1_method_14_code 84 = .ok (.putfield 138, 3) := by decide +kernel
theorem d_X11_pieces_87 : decode prog_1_method_14_code 87 = .ok (.aload_n 0, 1) := by decide +kernel
theorem d_X11_pieces_88 : decode prog_1_method_14_code 88 = .ok (.iconst 1, 1) := by decide +kernel
theorem d_X11_pieces_89 : decode prog_1_method_14_code 89 = .ok (.invokevirtual 190, 3) := by decide +kernel
theorem d_X11_pieces_92 : decode prog_1_method_14_code 92 = .ok (.istore 6, 2) := by decide +kernel
theorem d_X11_pieces_94 : decode prog_1_method_14_code 94 = .ok (.iload 6, 2) := by decide +kernel
theorem d_X11_pieces_96 : decode prog_1_method_14_code 96 = .ok (.iload_n 3, 1) := by decide +kernel
theorem d_X11_pieces_97 : decode prog_1_method_14_code 97 = .ok (.if_icmp .le 10, 3) := by decide +kernel
theorem d_X11_pieces_100 : decode prog_1_method_14_code 100 = .ok (.iload 6, 2) := by decide +kernel
theorem d_X11_pieces_102 : decode prog_1_method_14_code 102 = .ok (.istore_n 3, 1) := by decide +kernel
theorem d_X11_pieces_103 : decode prog_1_method_14_code 103 = .ok (.iload 5, 2) := by decide +kernel
theorem d_X11_pieces_105 : decode prog_1_method_14_code 105 = .ok (.istore 4, 2) := by decide +kernel
theorem d_X11_pieces_107 : decode prog_1_method_14_code 107 = .ok (.iinc 5 1, 3) := by decide +kernel
theorem d_X11_pieces_110 : decode prog_1_method_14_code 110 = .ok (.goto (-83), 3) := by decide +kernel
theorem d_X11_pieces_113 : decode prog_1_method_14_code 113 = .ok (.iload_n 2, 1) := by decide +kernel
theorem d_X11_pieces_114 : decode prog_1_method_14_code 114 = .ok (.ifCond .ne 8, 3) := by decide +kernel
theorem d_X11_pieces_117 : decode prog_1_method_14_code 117 = .ok (.iload 4, 2) := by decide +kernel
theorem d_X11_pieces_119 : decode prog_1_method_14_code 119 = .ok (.goto 4, 3) := by decide +kernel
theorem d_X11_pieces_122 : decode prog_1_method_14_code 122 = .ok (.iload_n 3, 1) := by decide +kernel
theorem d_X11_pieces_123 : decode prog_1_method_14_code 123 = .ok (.ireturn, 1) := by decide +kernel
def f_X11_pieces (a0 : Nat) (a1 : Int32) (a2 : Int32) (μ : gm_M) : Option (Option Value × gm_M) := if gm_tag μ a0 = 16 then gm_bI (f_X11_isNobody a0 a1 μ) (fun x2 m1 => if x2 ≠ 0 then some (some (.int (-1 : Int32)), m1) else gm_bI (f_X11_isOutside a2 (0 : Int32) (1 : Int32) m1) (fun x4 m3 => if x4 = 0 then gm_loop (fun (s5 : Int32 × Int32 × Int32 × gm_M) => if (6 : Int32) < s5.2.2.1 then if a2 ≠ 0 then some (Sum.inr (some (.int s5.1), s5.2.2.2)) else some (Sum.inr (some (.int s5.2.1), s5.2.2.2)) else gm_gR s5.2.2.2 [16] a0 5 (fun v6 => gm_gR s5.2.2.2 [16] a0 1 (fun v7 => gm_gR s5.2.2.2 [13] v7 2 (fun v8 => gm_aR s5.2.2.2 4 v8 a1 (fun v9 => if gm_tag s5.2.2.2 v6 = 7 then gm_bV (f_X2_copy v6 v9 s5.2.2.2) (fun m10 => gm_gR m10 [16] a0 5 (fun v12 => gm_pI m10 [7] v12 3 s5.2.2.1 (fun m13 => gm_gR m13 [16] a0 5 (fun v14 => gm_gR m13 [16] a0 1 (fun v15 => gm_gR m13 [13] v15 6 (fun v16 => gm_gI m13 [5] v16 1 (fun v17 => gm_pI m13 [7] v14 4 (v17 * s5.2.2.1) (fun m18 => gm_gR m18 [16] a0 5 (fun v19 => gm_pI m18 [7] v19 6 (0 : Int32) (fun m20 => if gm_tag m20 a0 = 16 then gm_bI (f_X11_trialWhen a0 (1 : Int32) m20) (fun x22 m21 => gm_j (fun (s23 : Int32 × Int32) => some (Sum.inl (s23.1, s23.2, (s5.2.2.1 + (1 : Int32)), m21))) (fun j24 => if x22 ≤ s5.1 then j24 (s5.1, s5.2.1) else j24 (x22, s5.2.2.1))) else none)))))))))) else none))))) 5000 ((-1 : Int32), (0 : Int32), (0 : Int32), m3) else some (some (.int (-1 : Int32)), m3))) else none
set_option maxHeartbeats 4000000 in
theorem c_X11_pieces (a0 : Nat) (a1 : Int32) (a2 : Int32) (μ : gm_M) : gm_Call ({ cls := "GumBubble", name := "pieces", desc := "(II)I" } : Jvm.MethodName) prog_1_method_14_code 7 (some .int) 5 0 0 [.ref a0, .int a1, .int a2] μ (f_X11_pieces a0 a1 a2 μ) := by
  refine gm_start PN_11 (Nat.le_of_ble_eq_true rfl) (fun res μe => ?_)
  unfold f_X11_pieces
  show gm_A "GumBubble" (gm_nm "pieces") _ _ _ _ _ _ _ _ _ 0 [(0, .ref a0), (1, .int a1), (2, .int a2)] [] _ _
  refine gm_aload_n d_X11_pieces_0 rfl 0 rfl ?_
  refine gm_iload_n d_X11_pieces_1 rfl 1 rfl ?_
  refine gm_grd (fun g2 => ?_)
  refine gm_callV (k0 := 11) [.int a1] (c_X11_isNobody a0 a1 μ) g2 rfl B_X11_isNobody gw_478 gs_11 rfl rfl rfl d_X11_pieces_2 (gm_kI (fun x2 m1 => ?_))
  refine gm_if_ne (tgt := 17) d_X11_pieces_5 (by decide) (fun h5 => ?_) (fun h5 => ?_)
  ·
    refine gm_iconst (v := -1) d_X11_pieces_17 (by decide) ?_
    exact gm_iret rfl d_X11_pieces_18 (Nat.le_of_ble_eq_true rfl) (Nat.le_of_ble_eq_true rfl) (fun h => h)
  ·
    refine gm_iload_n d_X11_pieces_8 rfl 2 rfl ?_
    refine gm_iconst (v := 0) d_X11_pieces_9 (by decide) ?_
    refine gm_iconst (v := 1) d_X11_pieces_10 (by decide) ?_
    refine gm_callS [.int a2, .int (0 : Int32), .int (1 : Int32)] (c_X11_isOutside a2 (0 : Int32) (1 : Int32) m1) B_X11_isOutside gw_296 rfl rfl rfl d_X11_pieces_11 (gm_kI (fun x4 m3 => ?_))
    refine gm_if_eq (tgt := 19) d_X11_pieces_14 (by decide) (fun h14 => ?_) (fun h14 => ?_)
    ·
      refine gm_iconst (v := -1) d_X11_pieces_19 (by decide) ?_
      refine gm_istore_n (L' := [(3, .int (-1 : Int32)), (0, .ref a0), (1, .int a1), (2, .int a2)]) d_X11_pieces_20 rfl (Nat.le_of_ble_eq_true rfl) rfl ?_
      refine gm_iconst (v := 0) d_X11_pieces_21 (by decide) ?_
      refine gm_istore (L' := [(4, .int (0 : Int32)), (3, .int (-1 : Int32)), (0, .ref a0), (1, .int a1), (2, .int a2)]) d_X11_pieces_22 (Nat.le_of_ble_eq_true rfl) rfl ?_
      refine gm_iconst (v := 0) d_X11_pieces_24 (by decide) ?_
      refine gm_istore (L' := [(5, .int (0 : Int32)), (4, .int (0 : Int32)), (3, .int (-1 : Int32)), (0, .ref a0), (1, .int a1), (2, .int a2)]) d_X11_pieces_25 (Nat.le_of_ble_eq_true rfl) rfl ?_
      refine gm_sub (L' := [(0, .ref a0), (1, .int a1), (2, .int a2), (3, .int (-1 : Int32)), (4, .int (0 : Int32)), (5, .int (0 : Int32))]) [3, 4, 5, 2, 1, 0] rfl ?_
      refine gm_lp (S := Int32 × Int32 × Int32 × gm_M) (fun _ => 0) (fun _ => 0) (fun s5 => s5.2.2.2) (fun s5 => [(0, .ref a0), (1, .int a1), (2, .int a2), (3, .int s5.1), (4, .int s5.2.1), (5, .int s5.2.2.1)]) (fun _ => []) (fun s5 => ?_) 5000 ((-1 : Int32), (0 : Int32), (0 : Int32), m3)
      refine gm_iload d_X11_pieces_27 5 rfl ?_
      refine gm_bipush (v := 6) d_X11_pieces_29 (by decide) ?_
      refine gm_icmp_gt (tgt := 113) d_X11_pieces_31 (by decide) (fun h31 => ?_) (fun h31 => ?_)
      ·
        refine gm_iload_n d_X11_pieces_113 rfl 2 rfl ?_
        refine gm_if_ne (tgt := 122) d_X11_pieces_114 (by decide) (fun h114 => ?_) (fun h114 => ?_)
        ·
          refine gm_iload_n d_X11_pieces_122 rfl 3 rfl ?_
          exact gm_iret rfl d_X11_pieces_123 (Nat.le_of_ble_eq_true rfl) (Nat.le_of_ble_eq_true rfl) (fun h => h)
        ·
          refine gm_iload d_X11_pieces_117 4 rfl ?_
          refine gm_goto (tgt := 123) d_X11_pieces_119 (by decide) ?_
          exact gm_iret rfl d_X11_pieces_123 (Nat.le_of_ble_eq_true rfl) (Nat.le_of_ble_eq_true rfl) (fun h => h)
      ·
        refine gm_aload_n d_X11_pieces_34 rfl 0 rfl ?_
        refine gm_getR F_11_trial gw_266 d_X11_pieces_35 (fun v6 _ => ?_)
        refine gm_aload_n d_X11_pieces_38 rfl 0 rfl ?_
        refine gm_getR F_11_now gw_262 d_X11_pieces_39 (fun v7 _ => ?_)
        refine gm_getR F_8_children gw_223 d_X11_pieces_42 (fun v8 _ => ?_)
        refine gm_iload_n d_X11_pieces_45 rfl 1 rfl ?_
        refine gm_aald (Or.inr rfl) d_X11_pieces_46 (fun v9 _ => ?_)
        refine gm_grd (fun g47 => ?_)
        refine gm_callV (k0 := 2) [.ref v9] (c_X2_copy v6 v9 s5.2.2.2) g47 rfl B_X2_copy gw_585 gw_587 rfl rfl rfl d_X11_pieces_47 (gm_kV (fun m10 => ?_))
        refine gm_aload_n d_X11_pieces_50 rfl 0 rfl ?_
        refine gm_getR F_11_trial gw_266 d_X11_pieces_51 (fun v12 _ => ?_)
        refine gm_iload d_X11_pieces_54 5 rfl ?_
        refine gm_putI F_2_pieces (Or.inl rfl) gw_185 d_X11_pieces_56 (fun m13 _ => ?_)
        refine gm_aload_n d_X11_pieces_59 rfl 0 rfl ?_
        refine gm_getR F_11_trial gw_266 d_X11_pieces_60 (fun v14 _ => ?_)
        refine gm_aload_n d_X11_pieces_63 rfl 0 rfl ?_
        refine gm_getR F_11_now gw_262 d_X11_pieces_64 (fun v15 _ => ?_)
        refine gm_getR F_8_afternoon gw_231 d_X11_pieces_67 (fun v16 _ => ?_)
        refine gm_getI F_0_sweet gw_129 d_X11_pieces_70 (fun v17 _ => ?_)
        refine gm_iload d_X11_pieces_73 5 rfl ?_
        refine gm_imul d_X11_pieces_75 ?_
        refine gm_putI F_2_sugar (Or.inl rfl) gw_188 d_X11_pieces_76 (fun m18 _ => ?_)
        refine gm_aload_n d_X11_pieces_79 rfl 0 rfl ?_
        refine gm_getR F_11_trial gw_266 d_X11_pieces_80 (fun v19 _ => ?_)
        refine gm_iconst (v := 0) d_X11_pieces_83 (by decide) ?_
        refine gm_putI F_2_bubble (Or.inl rfl) gw_193 d_X11_pieces_84 (fun m20 _ => ?_)
        refine gm_aload_n d_X11_pieces_87 rfl 0 rfl ?_
        refine gm_iconst (v := 1) d_X11_pieces_88 (by decide) ?_
        refine gm_grd (fun g89 => ?_)
        refine gm_callV (k0 := 11) [.int (1 : Int32)] (c_X11_trialWhen a0 (1 : Int32) m20) g89 rfl B_X11_trialWhen gw_627 gs_18 rfl rfl rfl d_X11_pieces_89 (gm_kI (fun x22 m21 => ?_))
        refine gm_istore (L' := [(6, .int x22), (0, .ref a0), (1, .int a1), (2, .int a2), (3, .int s5.1), (4, .int s5.2.1), (5, .int s5.2.2.1)]) d_X11_pieces_92 (Nat.le_of_ble_eq_true rfl) rfl ?_
        refine gm_iload d_X11_pieces_94 0 rfl ?_
        refine gm_iload_n d_X11_pieces_96 rfl 4 rfl ?_
        refine gm_join (S := Int32 × Int32) (pj := 107) (kj := 0) (nj := 0) (fun s23 => m21) (fun s23 => [(0, .ref a0), (1, .int a1), (2, .int a2), (3, .int s23.1), (4, .int s23.2), (5, .int s5.2.2.1), (6, .int x22)]) (fun s23 => []) (fun s23 => ?_) (fun j24 hj24 => ?_)
        ·
          refine gm_iinc (v := s5.2.2.1 + (1 : Int32)) (L' := [(5, .int (s5.2.2.1 + (1 : Int32))), (0, .ref a0), (1, .int a1), (2, .int a2), (3, .int s23.1), (4, .int s23.2), (6, .int x22)]) d_X11_pieces_107 5 rfl rfl (Nat.le_of_ble_eq_true rfl) rfl ?_
          refine gm_goto (tgt := 27) d_X11_pieces_110 (by decide) ?_
          refine gm_sub (L' := [(0, .ref a0), (1, .int a1), (2, .int a2), (3, .int s23.1), (4, .int s23.2), (5, .int (s5.2.2.1 + (1 : Int32)))]) [1, 2, 3, 4, 5, 0] rfl ?_
          exact gm_back (fun h => h)
        ·
          refine gm_icmp_le (tgt := 107) d_X11_pieces_97 (by decide) (fun h97 => ?_) (fun h97 => ?_)
          ·
            refine gm_sub (L' := [(0, .ref a0), (1, .int a1), (2, .int a2), (3, .int s5.1), (4, .int s5.2.1), (5, .int s5.2.2.1), (6, .int x22)]) [1, 2, 3, 4, 5, 6, 0] rfl ?_
            exact hj24 (s5.1, s5.2.1)
          ·
            refine gm_iload d_X11_pieces_100 0 rfl ?_
            refine gm_istore_n (L' := [(3, .int x22), (6, .int x22), (0, .ref a0), (1, .int a1), (2, .int a2), (4, .int s5.2.1), (5, .int s5.2.2.1)]) d_X11_pieces_102 rfl (Nat.le_of_ble_eq_true rfl) rfl ?_
            refine gm_iload d_X11_pieces_103 6 rfl ?_
            refine gm_istore (L' := [(4, .int s5.2.2.1), (3, .int x22), (6, .int x22), (0, .ref a0), (1, .int a1), (2, .int a2), (5, .int s5.2.2.1)]) d_X11_pieces_105 (Nat.le_of_ble_eq_true rfl) rfl ?_
            refine gm_sub (L' := [(0, .ref a0), (1, .int a1), (2, .int a2), (3, .int x22), (4, .int s5.2.2.1), (5, .int s5.2.2.1), (6, .int x22)]) [3, 4, 5, 1, 0, 6, 2] rfl ?_
            exact hj24 (x22, s5.2.2.1)
    ·
      refine gm_iconst (v := -1) d_X11_pieces_17 (by decide) ?_
      exact gm_iret rfl d_X11_pieces_18 (Nat.le_of_ble_eq_true rfl) (Nat.le_of_ble_eq_true rfl) (fun h => h)
theorem d_X11_plan_0 : decode prog_1_method_29_code 0 = .ok (.iload_n 1, 1) := by decide +kernel
theorem d_X11_plan_1 : decode prog_1_method_29_code 1 = .ok (.iconst (-1), 1) := by decide +kernel
theorem d_X11_plan_2 : decode prog_1_method_29_code 2 = .ok (.if_icmp .ne 14, 3) := by decide +kernel
theorem d_X11_plan_5 : decode prog_1_method_29_code 5 = .ok (.aload_n 0, 1) := by decide +kernel
theorem d_X11_plan_6 : decode prog_1_method_29_code 6 = .ok (.getfield 60, 3) := by decide +kernel
theorem d_X11_plan_9 : decode prog_1_method_29_code 9 = .ok (.getfield 250, 3) := by decide +kernel
theorem d_X11_plan_12 : decode prog_1_method_29_code 12 = .ok (.invokevirtual 236, 3) := by decide +kernel
theorem d_X11_plan_15 : decode prog_1_method_29_code 15 = .ok (.ireturn, 1) := by decide +kernel
theorem d_X11_plan_16 : decode prog_1_method_29_code 16 = .ok (.iload_n 1, 1) := by decide +kernel
theorem d_X11_plan_17 : decode prog_1_method_29_code 17 = .ok (.iconst 0, 1) := by decide +kernel
theorem d_X11_plan_18 : decode prog_1_method_29_code 18 = .ok (.iconst 3, 1) := by decide +kernel
theorem d_X11_plan_19 : decode prog_1_method_29_code 19 = .ok (.invokestatic 76, 3) := by decide +kernel
theorem d_X11_plan_22 : decode prog_1_method_29_code 22 = .ok (.ifCond .ne 15, 3) := by decide +kernel
theorem d_X11_plan_25 : decode prog_1_method_29_code 25 = .ok (.iload_n 1, 1) := by decide +kernel
theorem d_X11_plan_26 : decode prog_1_method_29_code 26 = .ok (.ifCond .eq 13, 3) := by decide +kernel
theorem d_X11_plan_29 : decode prog_1_method_29_code 29 = .ok (.aload_n 0, 1) := by decide +kernel
theorem d_X11_plan_30 : decode prog_1_method_29_code 30 = .ok (.iload_n 2, 1) := by decide +kernel
theorem d_X11_plan_31 : decode prog_1_method_29_code 31 = .ok (.invokevirtual 115, 3) := by decide +kernel
theorem d_X11_plan_34 : decode prog_1_method_29_code 34 = .ok (.ifCond .eq 5, 3) := by decide +kernel
theorem d_X11_plan_37 : decode prog_1_method_29_code 37 = .ok (.iconst (-1), 1) := by decide +kernel
theorem d_X11_plan_38 : decode prog_1_method_29_code 38 = .ok (.ireturn, 1) := by decide +kernel
theorem d_X11_plan_39 : decode prog_1_method_29_code 39 = .ok (.aload_n 0, 1) := by decide +kernel
theorem d_X11_plan_40 : decode prog_1_method_29_code 40 = .ok (.getfield 60, 3) := by decide +kernel
theorem d_X11_plan_43 : decode prog_1_method_29_code 43 = .ok (.getfield 250, 3) := by decide +kernel
theorem d_X11_plan_46 : decode prog_1_method_29_code 46 = .ok (.invokevirtual 239, 3) := by decide +kernel
theorem d_X11_plan_49 : decode prog_1_method_29_code 49 = .ok (.ifCond .eq 6, 3) := by decide +kernel
theorem d_X11_plan_52 : decode prog_1_method_29_code 52 = .ok (.bipush (-4), 2) := by decide +kernel
theorem d_X11_plan_54 : decode prog_1_method_29_code 54 = .ok (.ireturn, 1) := by decide +kernel
theorem d_X11_plan_55 : decode prog_1_method_29_code 55 = .ok (.aload_n 0, 1) := by decide +kernel
theorem d_X11_plan_56 : decode prog_1_method_29_code 56 = .ok (.getfield 60, 3) := by decide +kernel
theorem d_X11_plan_59 : decode prog_1_method_29_code 59 = .ok (.getfield 250, 3) := by decide +kernel
theorem d_X11_plan_62 : decode prog_1_method_29_code 62 = .ok (.iload_n 1, 1) := by decide +kernel
theorem d_X11_plan_63 : decode prog_1_method_29_code 63 = .ok (.iload_n 2, 1) := by decide +kernel
theorem d_X11_plan_64 : decode prog_1_method_29_code 64 = .ok (.iconst 0, 1) := by decide +kernel
theorem d_X11_plan_65 : decode prog_1_method_29_code 65 = .ok (.invokevirtual 243, 3) := by decide +kernel
theorem d_X11_plan_68 : decode prog_1_method_29_code 68 = .ok (.ireturn, 1) := by decide +kernel
def f_X11_plan (a0 : Nat) (a1 : Int32) (a2 : Int32) (μ : gm_M) : Option (Option Value × gm_M) := if a1 ≠ (-1 : Int32) then gm_bI (f_X11_isOutside a1 (0 : Int32) (3 : Int32) μ) (fun x2 m1 => if x2 ≠ 0 then some (some (.int (-1 : Int32)), m1) else gm_j (fun (s3 : gm_M) => gm_gR s3 [16] a0 1 (fun v5 => gm_gR s3 [13] v5 8 (fun v6 => if gm_tag s3 v6 = 12 then gm_bI (f_X7_isFull v6 s3) (fun x8 m7 => if x8 = 0 then gm_gR m7 [16] a0 1 (fun v9 => gm_gR m7 [13] v9 8 (fun v10 => if gm_tag m7 v10 = 12 then gm_bI (f_X7_add v10 a1 a2 (0 : Int32) m7) (fun x12 m11 => some (some (.int x12), m11)) else none)) else some (some (.int (-4 : Int32)), m7)) else none))) (fun j4 => if a1 = 0 then j4 m1 else if gm_tag m1 a0 = 16 then gm_bI (f_X11_isNobody a0 a2 m1) (fun x14 m13 => if x14 = 0 then j4 m13 else some (some (.int (-1 : Int32)), m13)) else none)) else gm_gR μ [16] a0 1 (fun v15 => gm_gR μ [13] v15 8 (fun v16 => if gm_tag μ v16 = 12 then gm_bI (f_X7_clear v16 μ) (fun x18 m17 => some (some (.int x18), m17)) else none))
set_option maxHeartbeats 4000000 in
theorem c_X11_plan (a0 : Nat) (a1 : Int32) (a2 : Int32) (μ : gm_M) : gm_Call ({ cls := "GumBubble", name := "plan", desc := "(II)I" } : Jvm.MethodName) prog_1_method_29_code 3 (some .int) 2 0 0 [.ref a0, .int a1, .int a2] μ (f_X11_plan a0 a1 a2 μ) := by
  refine gm_start PN_11 (Nat.le_of_ble_eq_true rfl) (fun res μe => ?_)
  unfold f_X11_plan
  show gm_A "GumBubble" (gm_nm "plan") _ _ _ _ _ _ _ _ _ 0 [(0, .ref a0), (1, .int a1), (2, .int a2)] [] _ _
  refine gm_iload_n d_X11_plan_0 rfl 1 rfl ?_
  refine gm_iconst (v := -1) d_X11_plan_1 (by decide) ?_
  refine gm_icmp_ne (tgt := 16) d_X11_plan_2 (by decide) (fun h2 => ?_) (fun h2 => ?_)
  ·
    refine gm_iload_n d_X11_plan_16 rfl 1 rfl ?_
    refine gm_iconst (v := 0) d_X11_plan_17 (by decide) ?_
    refine gm_iconst (v := 3) d_X11_plan_18 (by decide) ?_
    refine gm_callS [.int a1, .int (0 : Int32), .int (3 : Int32)] (c_X11_isOutside a1 (0 : Int32) (3 : Int32) μ) B_X11_isOutside gw_296 rfl rfl rfl d_X11_plan_19 (gm_kI (fun x2 m1 => ?_))
    refine gm_if_ne (tgt := 37) d_X11_plan_22 (by decide) (fun h22 => ?_) (fun h22 => ?_)
    ·
      refine gm_iconst (v := -1) d_X11_plan_37 (by decide) ?_
      exact gm_iret rfl d_X11_plan_38 (Nat.le_of_ble_eq_true rfl) (Nat.le_of_ble_eq_true rfl) (fun h => h)
    ·
      refine gm_iload_n d_X11_plan_25 rfl 1 rfl ?_
      refine gm_join (S := gm_M) (pj := 39) (kj := 0) (nj := 0) (fun s3 => s3) (fun s3 => [(0, .ref a0), (1, .int a1), (2, .int a2)]) (fun s3 => []) (fun s3 => ?_) (fun j4 hj4 => ?_)
      ·
        refine gm_aload_n d_X11_plan_39 rfl 0 rfl ?_
        refine gm_getR F_11_now gw_262 d_X11_plan_40 (fun v5 _ => ?_)
        refine gm_getR F_8_plan gw_235 d_X11_plan_43 (fun v6 _ => ?_)
        refine gm_grd (fun g46 => ?_)
        refine gm_callV (k0 := 7) [] (c_X7_isFull v6 s3) g46 rfl B_X7_isFull gw_714 gw_716 rfl rfl rfl d_X11_plan_46 (gm_kI (fun x8 m7 => ?_))
        refine gm_if_eq (tgt := 55) d_X11_plan_49 (by decide) (fun h49 => ?_) (fun h49 => ?_)
        ·
          refine gm_aload_n d_X11_plan_55 rfl 0 rfl ?_
          refine gm_getR F_11_now gw_262 d_X11_plan_56 (fun v9 _ => ?_)
          refine gm_getR F_8_plan gw_235 d_X11_plan_59 (fun v10 _ => ?_)
          refine gm_iload_n d_X11_plan_62 rfl 1 rfl ?_
          refine gm_iload_n d_X11_plan_63 rfl 2 rfl ?_
          refine gm_iconst (v := 0) d_X11_plan_64 (by decide) ?_
          refine gm_grd (fun g65 => ?_)
          refine gm_callV (k0 := 7) [.int a1, .int a2, .int (0 : Int32)] (c_X7_add v10 a1 a2 (0 : Int32) m7) g65 rfl B_X7_add gw_718 gw_720 rfl rfl rfl d_X11_plan_65 (gm_kI (fun x12 m11 => ?_))
          exact gm_iret rfl d_X11_plan_68 (Nat.le_of_ble_eq_true rfl) (Nat.le_of_ble_eq_true rfl) (fun h => h)
        ·
          refine gm_bipush (v := -4) d_X11_plan_52 (by decide) ?_
          exact gm_iret rfl d_X11_plan_54 (Nat.le_of_ble_eq_true rfl) (Nat.le_of_ble_eq_true rfl) (fun h => h)
      ·
        refine gm_if_eq (tgt := 39) d_X11_plan_26 (by decide) (fun h26 => ?_) (fun h26 => ?_)
        ·
          exact hj4 m1
        ·
          refine gm_aload_n d_X11_plan_29 rfl 0 rfl ?_
          refine gm_iload_n d_X11_plan_30 rfl 2 rfl ?_
          refine gm_grd (fun g31 => ?_)
          refine gm_callV (k0 := 11) [.int a2] (c_X11_isNobody a0 a2 m1) g31 rfl B_X11_isNobody gw_478 gs_11 rfl rfl rfl d_X11_plan_31 (gm_kI (fun x14 m13 => ?_))
          refine gm_if_eq (tgt := 39) d_X11_plan_34 (by decide) (fun h34 => ?_) (fun h34 => ?_)
          ·
            exact hj4 m13
          ·
            refine gm_iconst (v := -1) d_X11_plan_37 (by decide) ?_
            exact gm_iret rfl d_X11_plan_38 (Nat.le_of_ble_eq_true rfl) (Nat.le_of_ble_eq_true rfl) (fun h => h)
  ·
    refine gm_aload_n d_X11_plan_5 rfl 0 rfl ?_
    refine gm_getR F_11_now gw_262 d_X11_plan_6 (fun v15 _ => ?_)
    refine gm_getR F_8_plan gw_235 d_X11_plan_9 (fun v16 _ => ?_)
    refine gm_grd (fun g12 => ?_)
    refine gm_callV (k0 := 7) [] (c_X7_clear v16 μ) g12 rfl B_X7_clear gw_710 gw_712 rfl rfl rfl d_X11_plan_12 (gm_kI (fun x18 m17 => ?_))
    exact gm_iret rfl d_X11_plan_15 (Nat.le_of_ble_eq_true rfl) (Nat.le_of_ble_eq_true rfl) (fun h => h)
theorem d_X11_row_0 : decode prog_1_method_6_code 0 = .ok (.aload_n 0, 1) := by decide +kernel
theorem d_X11_row_1 : decode prog_1_method_6_code 1 = .ok (.iload_n 1, 1) := by decide +kernel
theorem d_X11_row_2 : decode prog_1_method_6_code 2 = .ok (.invokevirtual 115, 3) := by decide +kernel
theorem d_X11_row_5 : decode prog_1_method_6_code 5 = .ok (.ifCond .ne 12, 3) := by decide +kernel
theorem d_X11_row_8 : decode prog_1_method_6_code 8 = .ok (.iload_n 2, 1) := by decide +kernel
theorem d_X11_row_9 : decode prog_1_method_6_code 9 = .ok (.iconst 0, 1) := by decide +kernel
theorem d_X11_row_10 : decode prog_1_method_6_code 10 = .ok (.iconst 3, 1) := by decide +kernel
theorem d_X11_row_11 : decode prog_1_method_6_code 11 = .ok (.invokestatic 76, 3) := by decide +kernel
theorem d_X11_row_14 : decode prog_1_method_6_code 14 = .ok (.ifCond .eq 5, 3) := by decide +kernel
theorem d_X11_row_17 : decode prog_1_method_6_code 17 = .ok (.iconst (-1), 1) := by decide +kernel
theorem d_X11_row_18 : decode prog_1_method_6_code 18 = .ok (.ireturn, 1) := by decide +kernel
theorem d_X11_row_19 : decode prog_1_method_6_code 19 = .ok (.iload_n 3, 1) := by decide +kernel
theorem d_X11_row_20 : decode prog_1_method_6_code 20 = .ok (.iconst 0, 1) := by decide +kernel
theorem d_X11_row_21 : decode prog_1_method_6_code 21 = .ok (.bipush 9, 2) := by decide +kernel
theorem d_X11_row_23 : decode prog_1_method_6_code 23 = .ok (.invokestatic 76, 3) := by decide +kernel
theorem d_X11_row_26 : decode prog_1_method_6_code 26 = .ok (.ifCond .eq 6, 3) := by decide +kernel
theorem d_X11_row_29 : decode prog_1_method_6_code 29 = .ok (.bipush (-2), 2) := by decide +kernel
theorem d_X11_row_31 : decode prog_1_method_6_code 31 = .ok (.ireturn, 1) := by decide +kernel
theorem d_X11_row_32 : decode prog_1_method_6_code 32 = .ok (.aload_n 0, 1) := by decide +kernel
theorem d_X11_row_33 : decode prog_1_method_6_code 33 = .ok (.getfield 60, 3) := by decide +kernel
theorem d_X11_row_36 : decode prog_1_method_6_code 36 = .ok (.getfield 104, 3) := by decide +kernel
theorem d_X11_row_39 : decode prog_1_method_6_code 39 = .ok (.iload_n 1, 1) := by decide +kernel
theorem d_X11_row_40 : decode prog_1_method_6_code 40 = .ok (.aaload, 1) := by decide +kernel
theorem d_X11_row_41 : decode prog_1_method_6_code 41 = .ok (.astore 4, 2) := by decide +kernel
theorem d_X11_row_43 : decode prog_1_method_6_code 43 = .ok (.aload 4, 2) := by decide +kernel
theorem d_X11_row_45 : decode prog_1_method_6_code 45 = .ok (.getfield 119, 3) := by decide +kernel
theorem d_X11_row_48 : decode prog_1_method_6_code 48 = .ok (.instanceof 52, 3) := by decide +kernel
theorem d_X11_row_51 : decode prog_1_method_6_code 51 = .ok (.ifCond .ne 6, 3) := by decide +kernel
theorem d_X11_row_54 : decode prog_1_method_6_code 54 = .ok (.bipush (-3), 2) := by decide +kernel
theorem d_X11_row_56 : decode prog_1_method_6_code 56 = .ok (.ireturn, 1) := by decide +kernel
theorem d_X11_row_57 : decode prog_1_method_6_code 57 = .ok (.aload 4, 2) := by decide +kernel
theorem d_X11_row_59 : decode prog_1_method_6_code 59 = .ok (.getfield 162, 3) := by decide +kernel
theorem d_X11_row_62 : decode prog_1_method_6_code 62 = .ok (.iload_n 2, 1) := by decide +kernel
theorem d_X11_row_63 : decode prog_1_method_6_code 63 = .ok (.iaload, 1) := by decide +kernel
theorem d_X11_row_64 : decode prog_1_method_6_code 64 = .ok (.istore 5, 2) := by decide +kernel
theorem d_X11_row_66 : decode prog_1_method_6_code 66 = .ok (.aload 4, 2) := by decide +kernel
theorem d_X11_row_68 : decode prog_1_method_6_code 68 = .ok (.getfield 162, 3) := by decide +kernel
theorem d_X11_row_71 : decode prog_1_method_6_code 71 = .ok (.iload_n 2, 1) := by decide +kernel
theorem d_X11_row_72 : decode prog_1_method_6_code 72 = .ok (.iload_n 3, 1) := by decide +kernel
theorem d_X11_row_73 : decode prog_1_method_6_code 73 = .ok (.iastore, 1) := by decide +kernel
theorem d_X11_row_74 : decode prog_1_method_6_code 74 = .ok (.iload 5, 2) := by decide +kernel
theorem d_X11_row_76 : decode prog_1_method_6_code 76 = .ok (.ireturn, 1) := by decide +kernel
def f_X11_row (a0 : Nat) (a1 : Int32) (a2 : Int32) (a3 : Int32) (μ : gm_M) : Option (Option Value × gm_M) := if gm_tag μ a0 = 16 then gm_bI (f_X11_isNobody a0 a1 μ) (fun x2 m1 => if x2 ≠ 0 then some (some (.int (-1 : Int32)), m1) else gm_bI (f_X11_isOutside a2 (0 : Int32) (3 : Int32) m1) (fun x4 m3 => if x4 = 0 then gm_bI (f_X11_isOutside a3 (0 : Int32) (9 : Int32) m3) (fun x6 m5 => if x6 = 0 then gm_gR m5 [16] a0 1 (fun v7 => gm_gR m5 [13] v7 2 (fun v8 => gm_aR m5 4 v8 a1 (fun v9 => gm_gR m5 [7] v9 1 (fun v10 => gm_io m5 [15] [10, 6, 8, 9, 11, 14] v10 (fun v11 => if v11 ≠ 0 then gm_gR m5 [7] v9 8 (fun v12 => gm_aI m5 v12 a2 (fun v13 => gm_gR m5 [7] v9 8 (fun v14 => gm_sI m5 v14 a2 a3 (fun m15 => some (some (.int v13), m15))))) else some (some (.int (-3 : Int32)), m5)))))) else some (some (.int (-2 : Int32)), m5)) else some (some (.int (-1 : Int32)), m3))) else none
set_option maxHeartbeats 4000000 in
theorem c_X11_row (a0 : Nat) (a1 : Int32) (a2 : Int32) (a3 : Int32) (μ : gm_M) : gm_Call ({ cls := "GumBubble", name := "row", desc := "(III)I" } : Jvm.MethodName) prog_1_method_6_code 6 (some .int) 2 0 0 [.ref a0, .int a1, .int a2, .int a3] μ (f_X11_row a0 a1 a2 a3 μ) := by
  refine gm_start PN_11 (Nat.le_of_ble_eq_true rfl) (fun res μe => ?_)
  unfold f_X11_row
  show gm_A "GumBubble" (gm_nm "row") _ _ _ _ _ _ _ _ _ 0 [(0, .ref a0), (1, .int a1), (2, .int a2), (3, .int a3)] [] _ _
  refine gm_aload_n d_X11_row_0 rfl 0 rfl ?_
  refine gm_iload_n d_X11_row_1 rfl 1 rfl ?_
  refine gm_grd (fun g2 => ?_)
  refine gm_callV (k0 := 11) [.int a1] (c_X11_isNobody a0 a1 μ) g2 rfl B_X11_isNobody gw_478 gs_11 rfl rfl rfl d_X11_row_2 (gm_kI (fun x2 m1 => ?_))
  refine gm_if_ne (tgt := 17) d_X11_row_5 (by decide) (fun h5 => ?_) (fun h5 => ?_)
  ·
    refine gm_iconst (v := -1) d_X11_row_17 (by decide) ?_
    exact gm_iret rfl d_X11_row_18 (Nat.le_of_ble_eq_true rfl) (Nat.le_of_ble_eq_true rfl) (fun h => h)
  ·
    refine gm_iload_n d_X11_row_8 rfl 2 rfl ?_
    refine gm_iconst (v := 0) d_X11_row_9 (by decide) ?_
    refine gm_iconst (v := 3) d_X11_row_10 (by decide) ?_
    refine gm_callS [.int a2, .int (0 : Int32), .int (3 : Int32)] (c_X11_isOutside a2 (0 : Int32) (3 : Int32) m1) B_X11_isOutside gw_296 rfl rfl rfl d_X11_row_11 (gm_kI (fun x4 m3 => ?_))
    refine gm_if_eq (tgt := 19) d_X11_row_14 (by decide) (fun h14 => ?_) (fun h14 => ?_)
    ·
      refine gm_iload_n d_X11_row_19 rfl 3 rfl ?_
      refine gm_iconst (v := 0) d_X11_row_20 (by decide) ?_
      refine gm_bipush (v := 9) d_X11_row_21 (by decide) ?_
      refine gm_callS [.int a3, .int (0 : Int32), .int (9 : Int32)] (c_X11_isOutside a3 (0 : Int32) (9 : Int32) m3) B_X11_isOutside gw_296 rfl rfl rfl d_X11_row_23 (gm_kI (fun x6 m5 => ?_))
      refine gm_if_eq (tgt := 32) d_X11_row_26 (by decide) (fun h26 => ?_) (fun h26 => ?_)
      ·
        refine gm_aload_n d_X11_row_32 rfl 0 rfl ?_
        refine gm_getR F_11_now gw_262 d_X11_row_33 (fun v7 _ => ?_)
        refine gm_getR F_8_children gw_223 d_X11_row_36 (fun v8 _ => ?_)
        refine gm_iload_n d_X11_row_39 rfl 1 rfl ?_
        refine gm_aald (Or.inr rfl) d_X11_row_40 (fun v9 _ => ?_)
        refine gm_astore (L' := [(4, .ref v9), (0, .ref a0), (1, .int a1), (2, .int a2), (3, .int a3)]) d_X11_row_41 (Nat.le_of_ble_eq_true rfl) rfl ?_
        refine gm_aload d_X11_row_43 0 rfl ?_
        refine gm_getR F_2_kind gw_172 d_X11_row_45 (fun v10 _ => ?_)
        refine gm_inst IY_10 IN_10 gw_103 d_X11_row_48 (fun v11 => ?_)
        refine gm_if_ne (tgt := 57) d_X11_row_51 (by decide) (fun h51 => ?_) (fun h51 => ?_)
        ·
          refine gm_aload d_X11_row_57 0 rfl ?_
          refine gm_getR F_2_row gw_198 d_X11_row_59 (fun v12 _ => ?_)
          refine gm_iload_n d_X11_row_62 rfl 3 rfl ?_
          refine gm_iald d_X11_row_63 (fun v13 _ => ?_)
          refine gm_istore (L' := [(5, .int v13), (4, .ref v9), (0, .ref a0), (1, .int a1), (2, .int a2), (3, .int a3)]) d_X11_row_64 (Nat.le_of_ble_eq_true rfl) rfl ?_
          refine gm_aload d_X11_row_66 1 rfl ?_
          refine gm_getR F_2_row gw_198 d_X11_row_68 (fun v14 _ => ?_)
          refine gm_iload_n d_X11_row_71 rfl 4 rfl ?_
          refine gm_iload_n d_X11_row_72 rfl 5 rfl ?_
          refine gm_iast d_X11_row_73 (fun m15 _ => ?_)
          refine gm_iload d_X11_row_74 0 rfl ?_
          exact gm_iret rfl d_X11_row_76 (Nat.le_of_ble_eq_true rfl) (Nat.le_of_ble_eq_true rfl) (fun h => h)
        ·
          refine gm_bipush (v := -3) d_X11_row_54 (by decide) ?_
          exact gm_iret rfl d_X11_row_56 (Nat.le_of_ble_eq_true rfl) (Nat.le_of_ble_eq_true rfl) (fun h => h)
      ·
        refine gm_bipush (v := -2) d_X11_row_29 (by decide) ?_
        exact gm_iret rfl d_X11_row_31 (Nat.le_of_ble_eq_true rfl) (Nat.le_of_ble_eq_true rfl) (fun h => h)
    ·
      refine gm_iconst (v := -1) d_X11_row_17 (by decide) ?_
      exact gm_iret rfl d_X11_row_18 (Nat.le_of_ble_eq_true rfl) (Nat.le_of_ble_eq_true rfl) (fun h => h)
theorem d_X11_see_0 : decode prog_1_method_24_code 0 = .ok (.iload_n 1, 1) := by decide +kernel
theorem d_X11_see_1 : decode prog_1_method_24_code 1 = .ok (.iconst (-1), 1) := by decide +kernel
theorem d_X11_see_2 : decode prog_1_method_24_code 2 = .ok (.if_icmp .ne 14, 3) := by decide +kernel
theorem d_X11_see_5 : decode prog_1_method_24_code 5 = .ok (.aload_n 0, 1) := by decide +kernel
theorem d_X11_see_6 : decode prog_1_method_24_code 6 = .ok (.getfield 60, 3) := by decide +kernel
theorem d_X11_see_9 : decode prog_1_method_24_code 9 = .ok (.getfield 233, 3) := by decide +kernel
theorem d_X11_see_12 : decode prog_1_method_24_code 12 = .ok (.invokevirtual 236, 3) := by decide +kernel
theorem d_X11_see_15 : decode prog_1_method_24_code 15 = .ok (.ireturn, 1) := by decide +kernel
theorem d_X11_see_16 : decode prog_1_method_24_code 16 = .ok (.aload_n 0, 1) := by decide +kernel
theorem d_X11_see_17 : decode prog_1_method_24_code 17 = .ok (.iload_n 1, 1) := by decide +kernel
theorem d_X11_see_18 : decode prog_1_method_24_code 18 = .ok (.invokevirtual 115, 3) := by decide +kernel
theorem d_X11_see_21 : decode prog_1_method_24_code 21 = .ok (.ifCond .eq 5, 3) := by decide +kernel
theorem d_X11_see_24 : decode prog_1_method_24_code 24 = .ok (.iconst (-1), 1) := by decide +kernel
theorem d_X11_see_25 : decode prog_1_method_24_code 25 = .ok (.ireturn, 1) := by decide +kernel
theorem d_X11_see_26 : decode prog_1_method_24_code 26 = .ok (.iload_n 2, 1) := by decide +kernel
theorem d_X11_see_27 : decode prog_1_method_24_code 27 = .ok (.iconst 0, 1) := by decide +kernel
theorem d_X11_see_28 : decode prog_1_method_24_code 28 = .ok (.sipush 999, 3) := by decide +kernel
theorem d_X11_see_31 : decode prog_1_method_24_code 31 = .ok (.invokestatic 76, 3) := by decide +kernel
theorem d_X11_see_34 : decode prog_1_method_24_code 34 = .ok (.ifCond .ne 13, 3) := by decide +kernel
theorem d_X11_see_37 : decode prog_1_method_24_code 37 = .ok (.iload_n 3, 1) := by decide +kernel
theorem d_X11_see_38 : decode prog_1_method_24_code 38 = .ok (.iconst 0, 1) := by decide +kernel
theorem d_X11_see_39 : decode prog_1_method_24_code 39 = .ok (.bipush 20, 2) := by decide +kernel
theorem d_X11_see_41 : decode prog_1_method_24_code 41 = .ok (.invokestatic 76, 3) := by decide +kernel
theorem d_X11_see_44 : decode prog_1_method_24_code 44 = .ok (.ifCond .eq 6, 3) := by decide +kernel
theorem d_X11_see_47 : decode prog_1_method_24_code 47 = .ok (.bipush (-2), 2) := by decide +kernel
theorem d_X11_see_49 : decode prog_1_method_24_code 49 = .ok (.ireturn, 1) := by decide +kernel
theorem d_X11_see_50 : decode prog_1_method_24_code 50 = .ok (.aload_n 0, 1) := by decide +kernel
theorem d_X11_see_51 : decode prog_1_method_24_code 51 = .ok (.getfield 60, 3) := by decide +kernel
theorem d_X11_see_54 : decode prog_1_method_24_code 54 = .ok (.getfield 233, 3) := by decide +kernel
theorem d_X11_see_57 : decode prog_1_method_24_code 57 = .ok (.invokevirtual 239, 3) := by decide +kernel
theorem d_X11_see_60 : decode prog_1_method_24_code 60 = .ok (.ifCond .eq 6, 3) := by decide +kernel
theorem d_X11_see_63 : decode prog_1_method_24_code 63 = .ok (.bipush (-4), 2) := by decide +kernel
theorem d_X11_see_65 : decode prog_1_method_24_code 65 = .ok (.ireturn, 1) := by decide +kernel
theorem d_X11_see_66 : decode prog_1_method_24_code 66 = .ok (.aload_n 0, 1) := by decide +kernel
theorem d_X11_see_67 : decode prog_1_method_24_code 67 = .ok (.getfield 60, 3) := by decide +kernel
theorem d_X11_see_70 : decode prog_1_method_24_code 70 = .ok (.getfield 233, 3) := by decide +kernel
theorem d_X11_see_73 : decode prog_1_method_24_code 73 = .ok (.iload_n 1, 1) := by decide +kernel
theorem d_X11_see_74 : decode prog_1_method_24_code 74 = .ok (.iload_n 2, 1) := by decide +kernel
theorem d_X11_see_75 : decode prog_1_method_24_code 75 = .ok (.iload_n 3, 1) := by decide +kernel
theorem d_X11_see_76 : decode prog_1_method_24_code 76 = .ok (.invokevirtual 243, 3) := by decide +kernel
theorem d_X11_see_79 : decode prog_1_method_24_code 79 = .ok (.ireturn, 1) := by decide +kernel
def f_X11_see (a0 : Nat) (a1 : Int32) (a2 : Int32) (a3 : Int32) (μ : gm_M) : Option (Option Value × gm_M) := if a1 ≠ (-1 : Int32) then if gm_tag μ a0 = 16 then gm_bI (f_X11_isNobody a0 a1 μ) (fun x2 m1 => if x2 = 0 then gm_bI (f_X11_isOutside a2 (0 : Int32) (999 : Int32) m1) (fun x4 m3 => if x4 ≠ 0 then some (some (.int (-2 : Int32)), m3) else gm_bI (f_X11_isOutside a3 (0 : Int32) (20 : Int32) m3) (fun x6 m5 => if x6 = 0 then gm_gR m5 [16] a0 1 (fun v7 => gm_gR m5 [13] v7 7 (fun v8 => if gm_tag m5 v8 = 12 then gm_bI (f_X7_isFull v8 m5) (fun x10 m9 => if x10 = 0 then gm_gR m9 [16] a0 1 (fun v11 => gm_gR m9 [13] v11 7 (fun v12 => if gm_tag m9 v12 = 12 then gm_bI (f_X7_add v12 a1 a2 a3 m9) (fun x14 m13 => some (some (.int x14), m13)) else none)) else some (some (.int (-4 : Int32)), m9)) else none)) else some (some (.int (-2 : Int32)), m5))) else some (some (.int (-1 : Int32)), m1)) else none else gm_gR μ [16] a0 1 (fun v15 => gm_gR μ [13] v15 7 (fun v16 => if gm_tag μ v16 = 12 then gm_bI (f_X7_clear v16 μ) (fun x18 m17 => some (some (.int x18), m17)) else none))
set_option maxHeartbeats 4000000 in
theorem c_X11_see (a0 : Nat) (a1 : Int32) (a2 : Int32) (a3 : Int32) (μ : gm_M) : gm_Call ({ cls := "GumBubble", name := "see", desc := "(III)I" } : Jvm.MethodName) prog_1_method_24_code 4 (some .int) 2 0 0 [.ref a0, .int a1, .int a2, .int a3] μ (f_X11_see a0 a1 a2 a3 μ) := by
  refine gm_start PN_11 (Nat.le_of_ble_eq_true rfl) (fun res μe => ?_)
  unfold f_X11_see
  show gm_A "GumBubble" (gm_nm "see") _ _ _ _ _ _ _ _ _ 0 [(0, .ref a0), (1, .int a1), (2, .int a2), (3, .int a3)] [] _ _
  refine gm_iload_n d_X11_see_0 rfl 1 rfl ?_
  refine gm_iconst (v := -1) d_X11_see_1 (by decide) ?_
  refine gm_icmp_ne (tgt := 16) d_X11_see_2 (by decide) (fun h2 => ?_) (fun h2 => ?_)
  ·
    refine gm_aload_n d_X11_see_16 rfl 0 rfl ?_
    refine gm_iload_n d_X11_see_17 rfl 1 rfl ?_
    refine gm_grd (fun g18 => ?_)
    refine gm_callV (k0 := 11) [.int a1] (c_X11_isNobody a0 a1 μ) g18 rfl B_X11_isNobody gw_478 gs_11 rfl rfl rfl d_X11_see_18 (gm_kI (fun x2 m1 => ?_))
    refine gm_if_eq (tgt := 26) d_X11_see_21 (by decide) (fun h21 => ?_) (fun h21 => ?_)
    ·
      refine gm_iload_n d_X11_see_26 rfl 2 rfl ?_
      refine gm_iconst (v := 0) d_X11_see_27 (by decide) ?_
      refine gm_sipush (v := 999) d_X11_see_28 (by decide) ?_
      refine gm_callS [.int a2, .int (0 : Int32), .int (999 : Int32)] (c_X11_isOutside a2 (0 : Int32) (999 : Int32) m1) B_X11_isOutside gw_296 rfl rfl rfl d_X11_see_31 (gm_kI (fun x4 m3 => ?_))
      refine gm_if_ne (tgt := 47) d_X11_see_34 (by decide) (fun h34 => ?_) (fun h34 => ?_)
      ·
        refine gm_bipush (v := -2) d_X11_see_47 (by decide) ?_
        exact gm_iret rfl d_X11_see_49 (Nat.le_of_ble_eq_true rfl) (Nat.le_of_ble_eq_true rfl) (fun h => h)
      ·
        refine gm_iload_n d_X11_see_37 rfl 3 rfl ?_
        refine gm_iconst (v := 0) d_X11_see_38 (by decide) ?_
        refine gm_bipush (v := 20) d_X11_see_39 (by decide) ?_
        refine gm_callS [.int a3, .int (0 : Int32), .int (20 : Int32)] (c_X11_isOutside a3 (0 : Int32) (20 : Int32) m3) B_X11_isOutside gw_296 rfl rfl rfl d_X11_see_41 (gm_kI (fun x6 m5 => ?_))
        refine gm_if_eq (tgt := 50) d_X11_see_44 (by decide) (fun h44 => ?_) (fun h44 => ?_)
        ·
          refine gm_aload_n d_X11_see_50 rfl 0 rfl ?_
          refine gm_getR F_11_now gw_262 d_X11_see_51 (fun v7 _ => ?_)
          refine gm_getR F_8_seen gw_233 d_X11_see_54 (fun v8 _ => ?_)
          refine gm_grd (fun g57 => ?_)
          refine gm_callV (k0 := 7) [] (c_X7_isFull v8 m5) g57 rfl B_X7_isFull gw_714 gw_716 rfl rfl rfl d_X11_see_57 (gm_kI (fun x10 m9 => ?_))
          refine gm_if_eq (tgt := 66) d_X11_see_60 (by decide) (fun h60 => ?_) (fun h60 => ?_)
          ·
            refine gm_aload_n d_X11_see_66 rfl 0 rfl ?_
            refine gm_getR F_11_now gw_262 d_X11_see_67 (fun v11 _ => ?_)
            refine gm_getR F_8_seen gw_233 d_X11_see_70 (fun v12 _ => ?_)
            refine gm_iload_n d_X11_see_73 rfl 1 rfl ?_
            refine gm_iload_n d_X11_see_74 rfl 2 rfl ?_
            refine gm_iload_n d_X11_see_75 rfl 3 rfl ?_
            refine gm_grd (fun g76 => ?_)
            refine gm_callV (k0 := 7) [.int a1, .int a2, .int a3] (c_X7_add v12 a1 a2 a3 m9) g76 rfl B_X7_add gw_718 gw_720 rfl rfl rfl d_X11_see_76 (gm_kI (fun x14 m13 => ?_))
            exact gm_iret rfl d_X11_see_79 (Nat.le_of_ble_eq_true rfl) (Nat.le_of_ble_eq_true rfl) (fun h => h)
          ·
            refine gm_bipush (v := -4) d_X11_see_63 (by decide) ?_
            exact gm_iret rfl d_X11_see_65 (Nat.le_of_ble_eq_true rfl) (Nat.le_of_ble_eq_true rfl) (fun h => h)
        ·
          refine gm_bipush (v := -2) d_X11_see_47 (by decide) ?_
          exact gm_iret rfl d_X11_see_49 (Nat.le_of_ble_eq_true rfl) (Nat.le_of_ble_eq_true rfl) (fun h => h)
    ·
      refine gm_iconst (v := -1) d_X11_see_24 (by decide) ?_
      exact gm_iret rfl d_X11_see_25 (Nat.le_of_ble_eq_true rfl) (Nat.le_of_ble_eq_true rfl) (fun h => h)
  ·
    refine gm_aload_n d_X11_see_5 rfl 0 rfl ?_
    refine gm_getR F_11_now gw_262 d_X11_see_6 (fun v15 _ => ?_)
    refine gm_getR F_8_seen gw_233 d_X11_see_9 (fun v16 _ => ?_)
    refine gm_grd (fun g12 => ?_)
    refine gm_callV (k0 := 7) [] (c_X7_clear v16 μ) g12 rfl B_X7_clear gw_710 gw_712 rfl rfl rfl d_X11_see_12 (gm_kI (fun x18 m17 => ?_))
    exact gm_iret rfl d_X11_see_15 (Nat.le_of_ble_eq_true rfl) (Nat.le_of_ble_eq_true rfl) (fun h => h)
theorem d_X11_set_0 : decode prog_1_method_7_code 0 = .ok (.aload_n 0, 1) := by decide +kernel
theorem d_X11_set_1 : decode prog_1_method_7_code 1 = .ok (.iload_n 1, 1) := by decide +kernel
theorem d_X11_set_2 : decode prog_1_method_7_code 2 = .ok (.invokevirtual 115, 3) := by decide +kernel
theorem d_X11_set_5 : decode prog_1_method_7_code 5 = .ok (.ifCond .ne 12, 3) := by decide +kernel
theorem d_X11_set_8 : decode prog_1_method_7_code 8 = .ok (.iload_n 2, 1) := by decide +kernel
theorem d_X11_set_9 : decode prog_1_method_7_code 9 = .ok (.iconst 0, 1) := by decide +kernel
theorem d_X11_set_10 : decode prog_1_method_7_code 10 = .ok (.iconst 2, 1) := by decide +kernel
theorem d_X11_set_11 : decode prog_1_method_7_code 11 = .ok (.invokestatic 76, 3) := by decide +kernel
theorem d_X11_set_14 : decode prog_1_method_7_code 14 = .ok (.ifCond .eq 5, 3) := by decide +kernel
theorem d_X11_set_17 : decode prog_1_method_7_code 17 = .ok (.iconst (-1), 1) := by decide +kernel
theorem d_X11_set_18 : decode prog_1_method_7_code 18 = .ok (.ireturn, 1) := by decide +kernel
theorem d_X11_set_19 : decode prog_1_method_7_code 19 = .ok (.aload_n 0, 1) := by decide +kernel
theorem d_X11_set_20 : decode prog_1_method_7_code 20 = .ok (.getfield 60, 3) := by decide +kernel
theorem d_X11_set_23 : decode prog_1_method_7_code 23 = .ok (.getfield 104, 3) := by decide +kernel
theorem d_X11_set_26 : decode prog_1_method_7_code 26 = .ok (.iload_n 1, 1) := by decide +kernel
theorem d_X11_set_27 : decode prog_1_method_7_code 27 = .ok (.aaload, 1) := by decide +kernel
theorem d_X11_set_28 : decode prog_1_method_7_code 28 = .ok (.astore 4, 2) := by decide +kernel
theorem d_X11_set_30 : decode prog_1_method_7_code 30 = .ok (.iload_n 2, 1) := by decide +kernel
theorem d_X11_set_31 : decode prog_1_method_7_code 31 = .ok (.ifCond .ne 8, 3) := by decide +kernel
theorem d_X11_set_34 : decode prog_1_method_7_code 34 = .ok (.bipush 6, 2) := by decide +kernel
theorem d_X11_set_36 : decode prog_1_method_7_code 36 = .ok (.goto 16, 3) := by decide +kernel
theorem d_X11_set_39 : decode prog_1_method_7_code 39 = .ok (.iload_n 2, 1) := by decide +kernel
theorem d_X11_set_40 : decode prog_1_method_7_code 40 = .ok (.iconst 1, 1) := by decide +kernel
theorem d_X11_set_41 : decode prog_1_method_7_code 41 = .ok (.if_icmp .ne 9, 3) := by decide +kernel
theorem d_X11_set_44 : decode prog_1_method_7_code 44 = .ok (.sipush 999, 3) := by decide +kernel
theorem d_X11_set_47 : decode prog_1_method_7_code 47 = .ok (.goto 5, 3) := by decide +kernel
theorem d_X11_set_50 : decode prog_1_method_7_code 50 = .ok (.bipush 99, 2) := by decide +kernel
theorem d_X11_set_52 : decode prog_1_method_7_code 52 = .ok (.istore 5, 2) := by decide +kernel
theorem d_X11_set_54 : decode prog_1_method_7_code 54 = .ok (.iload_n 3, 1) := by decide +kernel
theorem d_X11_set_55 : decode prog_1_method_7_code 55 = .ok (.iconst 0, 1) := by decide +kernel
theorem d_X11_set_56 : decode prog_1_method_7_code 56 = .ok (.iload 5, 2) := by decide +kernel
theorem d_X11_set_58 : decode prog_1_method_7_code 58 = .ok (.invokestatic 76, 3) := by decide +kernel
theorem d_X11_set_61 : decode prog_1_method_7_code 61 = .ok (.ifCond .eq 6, 3) := by decide +kernel
theorem d_X11_set_64 : decode prog_1_method_7_code 64 = .ok (.bipush (-2), 2) := by decide +kernel
theorem d_X11_set_66 : decode prog_1_method_7_code 66 = .ok (.ireturn, 1) := by decide +kernel
theorem d_X11_set_67 : decode prog_1_method_7_code 67 = .ok (.iload_n 2, 1) := by decide +kernel
theorem d_X11_set_68 : decode prog_1_method_7_code 68 = .ok (.ifCond .ne 19, 3) := by decide +kernel
theorem d_X11_set_71 : decode prog_1_method_7_code 71 = .ok (.aload 4, 2) := by decide +kernel
theorem d_X11_set_73 : decode prog_1_method_7_code 73 = .ok (.getfield 129, 3) := by decide +kernel
theorem d_X11_set_76 : decode prog_1_method_7_code 76 = .ok (.istore 6, 2) := by decide +kernel
theorem d_X11_set_78 : decode prog_1_method_7_code 78 = .ok (.aload 4, 2) := by decide +kernel
theorem d_X11_set_80 : decode prog_1_method_7_code 80 = .ok (.iload_n 3, 1) := by decide +kernel
theorem d_X11_set_81 : decode prog_1_method_7_code 81 = .ok (.putfield 129, 3) := by decide +kernel
theorem d_X11_set_84 : decode prog_1_method_7_code 84 = .ok (.goto 37, 3) := by decide +kernel
theorem d_X11_set_87 : decode prog_1_method_7_code 87 = .ok (.iload_n 2, 1) := by decide +kernel
theorem d_X11_set_88 : decode prog_1_method_7_code 88 = .ok (.iconst 1, 1) := by decide +kernel
theorem d_X11_set_89 : decode prog_1_method_7_code 89 = .ok (.if_icmp .ne 19, 3) := by decide +kernel
theorem d_X11_set_92 : decode prog_1_method_7_code 92 = .ok (.aload 4, 2) := by decide +kernel
theorem d_X11_set_94 : decode prog_1_method_7_code 94 = .ok (.getfield 132, 3) := by decide +kernel
theorem d_X11_set_97 : decode prog_1_method_7_code 97 = .ok (.istore 6, 2) := by decide +kernel
theorem d_X11_set_99 : decode prog_1_method_7_code 99 = .ok (.aload 4, 2) := by decide +kernel
theorem d_X11_set_101 : decode prog_1_method_7_code 101 = .ok (.iload_n 3, 1) := by decide +kernel
theorem d_X11_set_102 : decode prog_1_method_7_code 102 = .ok (.putfield 132, 3) := by decide +kernel
theorem d_X11_set_105 : decode prog_1_method_7_code 105 = .ok (.goto 16, 3) := by decide +kernel
theorem d_X11_set_108 : decode prog_1_method_7_code 108 = .ok (.aload 4, 2) := by decide +kernel
theorem d_X11_set_110 : decode prog_1_method_7_code 110 = .ok (.getfield 135, 3) := by decide +kernel
theorem d_X11_set_113 : decode prog_1_method_7_code 113 = .ok (.istore 6, 2) := by decide +kernel
theorem d_X11_set_115 : decode prog_1_method_7_code 115 = .ok (.aload 4, 2) := by decide +kernel
theorem d_X11_set_117 : decode prog_1_method_7_code 117 = .ok (.iload_n 3, 1) := by decide +kernel
theorem d_X11_set_118 : decode prog_1_method_7_code 118 = .ok (.putfield 135, 3) := by decide +kernel
theorem d_X11_set_121 : decode prog_1_method_7_code 121 = .ok (.iload 6, 2) := by decide +kernel
theorem d_X11_set_123 : decode prog_1_method_7_code 123 = .ok (.ireturn, 1) := by decide +kernel
def f_X11_set (a0 : Nat) (a1 : Int32) (a2 : Int32) (a3 : Int32) (μ : gm_M) : Option (Option Value × gm_M) := if gm_tag μ a0 = 16 then gm_bI (f_X11_isNobody a0 a1 μ) (fun x2 m1 => if x2 ≠ 0 then some (some (.int (-1 : Int32)), m1) else gm_bI (f_X11_isOutside a2 (0 : Int32) (2 : Int32) m1) (fun x4 m3 => if x4 = 0 then gm_gR m3 [16] a0 1 (fun v5 => gm_gR m3 [13] v5 2 (fun v6 => gm_aR m3 4 v6 a1 (fun v7 => gm_j (fun (s8 : Int32) => gm_bI (f_X11_isOutside a3 (0 : Int32) s8 m3) (fun x11 m10 => if x11 = 0 then if a2 ≠ 0 then if a2 ≠ (1 : Int32) then gm_gI m10 [7] v7 5 (fun v12 => gm_pI m10 [7] v7 5 a3 (fun m13 => some (some (.int v12), m13))) else gm_gI m10 [7] v7 4 (fun v14 => gm_pI m10 [7] v7 4 a3 (fun m15 => some (some (.int v14), m15))) else gm_gI m10 [7] v7 3 (fun v16 => gm_pI m10 [7] v7 3 a3 (fun m17 => some (some (.int v16), m17))) else some (some (.int (-2 : Int32)), m10))) (fun j9 => if a2 ≠ 0 then if a2 ≠ (1 : Int32) then j9 (99 : Int32) else j9 (999 : Int32) else j9 (6 : Int32))))) else some (some (.int (-1 : Int32)), m3))) else none
set_option maxHeartbeats 4000000 in
theorem c_X11_set (a0 : Nat) (a1 : Int32) (a2 : Int32) (a3 : Int32) (μ : gm_M) : gm_Call ({ cls := "GumBubble", name := "set", desc := "(III)I" } : Jvm.MethodName) prog_1_method_7_code 7 (some .int) 2 0 0 [.ref a0, .int a1, .int a2, .int a3] μ (f_X11_set a0 a1 a2 a3 μ) := by
  refine gm_start PN_11 (Nat.le_of_ble_eq_true rfl) (fun res μe => ?_)
  unfold f_X11_set
  show gm_A "GumBubble" (gm_nm "set") _ _ _ _ _ _ _ _ _ 0 [(0, .ref a0), (1, .int a1), (2, .int a2), (3, .int a3)] [] _ _
  refine gm_aload_n d_X11_set_0 rfl 0 rfl ?_
  refine gm_iload_n d_X11_set_1 rfl 1 rfl ?_
  refine gm_grd (fun g2 => ?_)
  refine gm_callV (k0 := 11) [.int a1] (c_X11_isNobody a0 a1 μ) g2 rfl B_X11_isNobody gw_478 gs_11 rfl rfl rfl d_X11_set_2 (gm_kI (fun x2 m1 => ?_))
  refine gm_if_ne (tgt := 17) d_X11_set_5 (by decide) (fun h5 => ?_) (fun h5 => ?_)
  ·
    refine gm_iconst (v := -1) d_X11_set_17 (by decide) ?_
    exact gm_iret rfl d_X11_set_18 (Nat.le_of_ble_eq_true rfl) (Nat.le_of_ble_eq_true rfl) (fun h => h)
  ·
    refine gm_iload_n d_X11_set_8 rfl 2 rfl ?_
    refine gm_iconst (v := 0) d_X11_set_9 (by decide) ?_
    refine gm_iconst (v := 2) d_X11_set_10 (by decide) ?_
    refine gm_callS [.int a2, .int (0 : Int32), .int (2 : Int32)] (c_X11_isOutside a2 (0 : Int32) (2 : Int32) m1) B_X11_isOutside gw_296 rfl rfl rfl d_X11_set_11 (gm_kI (fun x4 m3 => ?_))
    refine gm_if_eq (tgt := 19) d_X11_set_14 (by decide) (fun h14 => ?_) (fun h14 => ?_)
    ·
      refine gm_aload_n d_X11_set_19 rfl 0 rfl ?_
      refine gm_getR F_11_now gw_262 d_X11_set_20 (fun v5 _ => ?_)
      refine gm_getR F_8_children gw_223 d_X11_set_23 (fun v6 _ => ?_)
      refine gm_iload_n d_X11_set_26 rfl 1 rfl ?_
      refine gm_aald (Or.inr rfl) d_X11_set_27 (fun v7 _ => ?_)
      refine gm_astore (L' := [(4, .ref v7), (0, .ref a0), (1, .int a1), (2, .int a2), (3, .int a3)]) d_X11_set_28 (Nat.le_of_ble_eq_true rfl) rfl ?_
      refine gm_iload_n d_X11_set_30 rfl 3 rfl ?_
      refine gm_join (S := Int32) (pj := 52) (kj := 0) (nj := 0) (fun s8 => m3) (fun s8 => [(0, .ref a0), (1, .int a1), (2, .int a2), (3, .int a3), (4, .ref v7)]) (fun s8 => [.int s8]) (fun s8 => ?_) (fun j9 hj9 => ?_)
      ·
        refine gm_istore (L' := [(5, .int s8), (0, .ref a0), (1, .int a1), (2, .int a2), (3, .int a3), (4, .ref v7)]) d_X11_set_52 (Nat.le_of_ble_eq_true rfl) rfl ?_
        refine gm_iload_n d_X11_set_54 rfl 4 rfl ?_
        refine gm_iconst (v := 0) d_X11_set_55 (by decide) ?_
        refine gm_iload d_X11_set_56 0 rfl ?_
        refine gm_callS [.int a3, .int (0 : Int32), .int s8] (c_X11_isOutside a3 (0 : Int32) s8 m3) B_X11_isOutside gw_296 rfl rfl rfl d_X11_set_58 (gm_kI (fun x11 m10 => ?_))
        refine gm_if_eq (tgt := 67) d_X11_set_61 (by decide) (fun h61 => ?_) (fun h61 => ?_)
        ·
          refine gm_iload_n d_X11_set_67 rfl 3 rfl ?_
          refine gm_if_ne (tgt := 87) d_X11_set_68 (by decide) (fun h68 => ?_) (fun h68 => ?_)
          ·
            refine gm_iload_n d_X11_set_87 rfl 3 rfl ?_
            refine gm_iconst (v := 1) d_X11_set_88 (by decide) ?_
            refine gm_icmp_ne (tgt := 108) d_X11_set_89 (by decide) (fun h89 => ?_) (fun h89 => ?_)
            ·
              refine gm_aload d_X11_set_108 5 rfl ?_
              refine gm_getI F_2_jaw gw_191 d_X11_set_110 (fun v12 _ => ?_)
              refine gm_istore (L' := [(6, .int v12), (5, .int s8), (0, .ref a0), (1, .int a1), (2, .int a2), (3, .int a3), (4, .ref v7)]) d_X11_set_113 (Nat.le_of_ble_eq_true rfl) rfl ?_
              refine gm_aload d_X11_set_115 6 rfl ?_
              refine gm_iload_n d_X11_set_117 rfl 5 rfl ?_
              refine gm_putI F_2_jaw (Or.inl rfl) gw_191 d_X11_set_118 (fun m13 _ => ?_)
              refine gm_iload d_X11_set_121 0 rfl ?_
              exact gm_iret rfl d_X11_set_123 (Nat.le_of_ble_eq_true rfl) (Nat.le_of_ble_eq_true rfl) (fun h => h)
            ·
              refine gm_aload d_X11_set_92 5 rfl ?_
              refine gm_getI F_2_sugar gw_188 d_X11_set_94 (fun v14 _ => ?_)
              refine gm_istore (L' := [(6, .int v14), (5, .int s8), (0, .ref a0), (1, .int a1), (2, .int a2), (3, .int a3), (4, .ref v7)]) d_X11_set_97 (Nat.le_of_ble_eq_true rfl) rfl ?_
              refine gm_aload d_X11_set_99 6 rfl ?_
              refine gm_iload_n d_X11_set_101 rfl 5 rfl ?_
              refine gm_putI F_2_sugar (Or.inl rfl) gw_188 d_X11_set_102 (fun m15 _ => ?_)
              refine gm_goto (tgt := 121) d_X11_set_105 (by decide) ?_
              refine gm_iload d_X11_set_121 0 rfl ?_
              exact gm_iret rfl d_X11_set_123 (Nat.le_of_ble_eq_true rfl) (Nat.le_of_ble_eq_true rfl) (fun h => h)
          ·
            refine gm_aload d_X11_set_71 5 rfl ?_
            refine gm_getI F_2_pieces gw_185 d_X11_set_73 (fun v16 _ => ?_)
            refine gm_istore (L' := [(6, .int v16), (5, .int s8), (0, .ref a0), (1, .int a1), (2, .int a2), (3, .int a3), (4, .ref v7)]) d_X11_set_76 (Nat.le_of_ble_eq_true rfl) rfl ?_
            refine gm_aload d_X11_set_78 6 rfl ?_
            refine gm_iload_n d_X11_set_80 rfl 5 rfl ?_
            refine gm_putI F_2_pieces (Or.inl rfl) gw_185 d_X11_set_81 (fun m17 _ => ?_)
            refine gm_goto (tgt := 121) d_X11_set_84 (by decide) ?_
            refine gm_iload d_X11_set_121 0 rfl ?_
            exact gm_iret rfl d_X11_set_123 (Nat.le_of_ble_eq_true rfl) (Nat.le_of_ble_eq_true rfl) (fun h => h)
        ·
          refine gm_bipush (v := -2) d_X11_set_64 (by decide) ?_
          exact gm_iret rfl d_X11_set_66 (Nat.le_of_ble_eq_true rfl) (Nat.le_of_ble_eq_true rfl) (fun h => h)
      ·
        refine gm_if_ne (tgt := 39) d_X11_set_31 (by decide) (fun h31 => ?_) (fun h31 => ?_)
        ·
          refine gm_iload_n d_X11_set_39 rfl 3 rfl ?_
          refine gm_iconst (v := 1) d_X11_set_40 (by decide) ?_
          refine gm_icmp_ne (tgt := 50) d_X11_set_41 (by decide) (fun h41 => ?_) (fun h41 => ?_)
          ·
            refine gm_bipush (v := 99) d_X11_set_50 (by decide) ?_
            refine gm_sub (L' := [(0, .ref a0), (1, .int a1), (2, .int a2), (3, .int a3), (4, .ref v7)]) [1, 2, 3, 4, 0] rfl ?_
            exact hj9 (99 : Int32)
          ·
            refine gm_sipush (v := 999) d_X11_set_44 (by decide) ?_
            refine gm_goto (tgt := 52) d_X11_set_47 (by decide) ?_
            refine gm_sub (L' := [(0, .ref a0), (1, .int a1), (2, .int a2), (3, .int a3), (4, .ref v7)]) [1, 2, 3, 4, 0] rfl ?_
            exact hj9 (999 : Int32)
        ·
          refine gm_bipush (v := 6) d_X11_set_34 (by decide) ?_
          refine gm_goto (tgt := 52) d_X11_set_36 (by decide) ?_
          refine gm_sub (L' := [(0, .ref a0), (1, .int a1), (2, .int a2), (3, .int a3), (4, .ref v7)]) [1, 2, 3, 4, 0] rfl ?_
          exact hj9 (6 : Int32)
    ·
      refine gm_iconst (v := -1) d_X11_set_17 (by decide) ?_
      exact gm_iret rfl d_X11_set_18 (Nat.le_of_ble_eq_true rfl) (Nat.le_of_ble_eq_true rfl) (fun h => h)
theorem d_X11_slack_0 : decode prog_1_method_16_code 0 = .ok (.aload_n 0, 1) := by decide +kernel
theorem d_X11_slack_1 : decode prog_1_method_16_code 1 = .ok (.iload_n 1, 1) := by decide +kernel
theorem d_X11_slack_2 : decode prog_1_method_16_code 2 = .ok (.invokevirtual 115, 3) := by decide +kernel
theorem d_X11_slack_5 : decode prog_1_method_16_code 5 = .ok (.ifCond .eq 7, 3) := by decide +kernel
theorem d_X11_slack_8 : decode prog_1_method_16_code 8 = .ok (.sipush (-10001), 3) := by decide +kernel
theorem d_X11_slack_11 : decode prog_1_method_16_code 11 = .ok (.ireturn, 1) := by decide +kernel
theorem d_X11_slack_12 : decode prog_1_method_16_code 12 = .ok (.aload_n 0, 1) := by decide +kernel
theorem d_X11_slack_13 : decode prog_1_method_16_code 13 = .ok (.iload_n 1, 1) := by decide +kernel
theorem d_X11_slack_14 : decode prog_1_method_16_code 14 = .ok (.invokevirtual 158, 3) := by decide +kernel
theorem d_X11_slack_17 : decode prog_1_method_16_code 17 = .ok (.aload_n 0, 1) := by decide +kernel
theorem d_X11_slack_18 : decode prog_1_method_16_code 18 = .ok (.getfield 60, 3) := by decide +kernel
theorem d_X11_slack_21 : decode prog_1_method_16_code 21 = .ok (.getfield 104, 3) := by decide +kernel
theorem d_X11_slack_24 : decode prog_1_method_16_code 24 = .ok (.iload_n 1, 1) := by decide +kernel
theorem d_X11_slack_25 : decode prog_1_method_16_code 25 = .ok (.aaload, 1) := by decide +kernel
theorem d_X11_slack_26 : decode prog_1_method_16_code 26 = .ok (.getfield 138, 3) := by decide +kernel
theorem d_X11_slack_29 : decode prog_1_method_16_code 29 = .ok (.isub, 1) := by decide +kernel
theorem d_X11_slack_30 : decode prog_1_method_16_code 30 = .ok (.ireturn, 1) := by decide +kernel
def f_X11_slack (a0 : Nat) (a1 : Int32) (μ : gm_M) : Option (Option Value × gm_M) := if gm_tag μ a0 = 16 then gm_bI (f_X11_isNobody a0 a1 μ) (fun x2 m1 => if x2 = 0 then if gm_tag m1 a0 = 16 then gm_bI (f_X11_holdsNow a0 a1 m1) (fun x4 m3 => gm_gR m3 [16] a0 1 (fun v5 => gm_gR m3 [13] v5 2 (fun v6 => gm_aR m3 4 v6 a1 (fun v7 => gm_gI m3 [7] v7 6 (fun v8 => some (some (.int (x4 - v8)), m3)))))) else none else some (some (.int (-10001 : Int32)), m1)) else none
set_option maxHeartbeats 4000000 in
theorem c_X11_slack (a0 : Nat) (a1 : Int32) (μ : gm_M) : gm_Call ({ cls := "GumBubble", name := "slack", desc := "(I)I" } : Jvm.MethodName) prog_1_method_16_code 2 (some .int) 5 0 0 [.ref a0, .int a1] μ (f_X11_slack a0 a1 μ) := by
  refine gm_start PN_11 (Nat.le_of_ble_eq_true rfl) (fun res μe => ?_)
  unfold f_X11_slack
  show gm_A "GumBubble" (gm_nm "slack") _ _ _ _ _ _ _ _ _ 0 [(0, .ref a0), (1, .int a1)] [] _ _
  refine gm_aload_n d_X11_slack_0 rfl 0 rfl ?_
  refine gm_iload_n d_X11_slack_1 rfl 1 rfl ?_
  refine gm_grd (fun g2 => ?_)
  refine gm_callV (k0 := 11) [.int a1] (c_X11_isNobody a0 a1 μ) g2 rfl B_X11_isNobody gw_478 gs_11 rfl rfl rfl d_X11_slack_2 (gm_kI (fun x2 m1 => ?_))
  refine gm_if_eq (tgt := 12) d_X11_slack_5 (by decide) (fun h5 => ?_) (fun h5 => ?_)
  ·
    refine gm_aload_n d_X11_slack_12 rfl 0 rfl ?_
    refine gm_iload_n d_X11_slack_13 rfl 1 rfl ?_
    refine gm_grd (fun g14 => ?_)
    refine gm_callV (k0 := 11) [.int a1] (c_X11_holdsNow a0 a1 m1) g14 rfl B_X11_holdsNow gw_541 gs_13 rfl rfl rfl d_X11_slack_14 (gm_kI (fun x4 m3 => ?_))
    refine gm_aload_n d_X11_slack_17 rfl 0 rfl ?_
    refine gm_getR F_11_now gw_262 d_X11_slack_18 (fun v5 _ => ?_)
    refine gm_getR F_8_children gw_223 d_X11_slack_21 (fun v6 _ => ?_)
    refine gm_iload_n d_X11_slack_24 rfl 1 rfl ?_
    refine gm_aald (Or.inr rfl) d_X11_slack_25 (fun v7 _ => ?_)
    refine gm_getI F_2_bubble gw_193 d_X11_slack_26 (fun v8 _ => ?_)
    refine gm_isub d_X11_slack_29 ?_
    exact gm_iret rfl d_X11_slack_30 (Nat.le_of_ble_eq_true rfl) (Nat.le_of_ble_eq_true rfl) (fun h => h)
  ·
    refine gm_sipush (v := -10001) d_X11_slack_8 (by decide) ?_
    exact gm_iret rfl d_X11_slack_11 (Nat.le_of_ble_eq_true rfl) (Nat.le_of_ble_eq_true rfl) (fun h => h)
theorem d_X11_soon_0 : decode prog_1_method_13_code 0 = .ok (.aload_n 0, 1) := by decide +kernel
theorem d_X11_soon_1 : decode prog_1_method_13_code 1 = .ok (.iload_n 1, 1) := by decide +kernel
theorem d_X11_soon_2 : decode prog_1_method_13_code 2 = .ok (.invokevirtual 115, 3) := by decide +kernel
theorem d_X11_soon_5 : decode prog_1_method_13_code 5 = .ok (.ifCond .eq 5, 3) := by decide +kernel
theorem d_X11_soon_8 : decode prog_1_method_13_code 8 = .ok (.iconst (-1), 1) := by decide +kernel
theorem d_X11_soon_9 : decode prog_1_method_13_code 9 = .ok (.ireturn, 1) := by decide +kernel
theorem d_X11_soon_10 : decode prog_1_method_13_code 10 = .ok (.iload_n 2, 1) := by decide +kernel
theorem d_X11_soon_11 : decode prog_1_method_13_code 11 = .ok (.iconst 1, 1) := by decide +kernel
theorem d_X11_soon_12 : decode prog_1_method_13_code 12 = .ok (.sipush 999, 3) := by decide +kernel
theorem d_X11_soon_15 : decode prog_1_method_13_code 15 = .ok (.invokestatic 76, 3) := by decide +kernel
theorem d_X11_soon_18 : decode prog_1_method_13_code 18 = .ok (.ifCond .eq 6, 3) := by decide +kernel
theorem d_X11_soon_21 : decode prog_1_method_13_code 21 = .ok (.bipush (-2), 2) := by decide +kernel
theorem d_X11_soon_23 : decode prog_1_method_13_code 23 = .ok (.ireturn, 1) := by decide +kernel
theorem d_X11_soon_24 : decode prog_1_method_13_code 24 = .ok (.aload_n 0, 1) := by decide +kernel
theorem d_X11_soon_25 : decode prog_1_method_13_code 25 = .ok (.getfield 72, 3) := by decide +kernel
theorem d_X11_soon_28 : decode prog_1_method_13_code 28 = .ok (.aload_n 0, 1) := by decide +kernel
theorem d_X11_soon_29 : decode prog_1_method_13_code 29 = .ok (.getfield 60, 3) := by decide +kernel
theorem d_X11_soon_32 : decode prog_1_method_13_code 32 = .ok (.getfield 104, 3) := by decide +kernel
theorem d_X11_soon_35 : decode prog_1_method_13_code 35 = .ok (.iload_n 1, 1) := by decide +kernel
theorem d_X11_soon_36 : decode prog_1_method_13_code 36 = .ok (.aaload, 1) := by decide +kernel
theorem d_X11_soon_37 : decode prog_1_method_13_code 37 = .ok (.invokevirtual 186, 3) := by decide +kernel
theorem d_X11_soon_40 : decode prog_1_method_13_code 40 = .ok (.iconst 0, 1) := by decide +kernel
theorem d_X11_soon_41 : decode prog_1_method_13_code 41 = .ok (.istore_n 3, 1) := by decide +kernel
theorem d_X11_soon_42 : decode prog_1_method_13_code 42 = .ok (.iload_n 3, 1) := by decide +kernel
theorem d_X11_soon_43 : decode prog_1_method_13_code 43 = .ok (.bipush 60, 2) := by decide +kernel
theorem d_X11_soon_45 : decode prog_1_method_13_code 45 = .ok (.if_icmp .gt 54, 3) := by decide +kernel
theorem d_X11_soon_48 : decode prog_1_method_13_code 48 = .ok (.aload_n 0, 1) := by decide +kernel
theorem d_X11_soon_49 : decode prog_1_method_13_code 49 = .ok (.getfield 72, 3) := by decide +kernel
theorem d_X11_soon_52 : decode prog_1_method_13_code 52 = .ok (.aload_n 0, 1) := by decide +kernel
theorem d_X11_soon_53 : decode prog_1_method_13_code 53 = .ok (.getfield 60, 3) := by decide +kernel
theorem d_X11_soon_56 : decode prog_1_method_13_code 56 = .ok (.getfield 97, 3) := by decide +kernel
theorem d_X11_soon_59 : decode prog_1_method_13_code 59 = .ok (.aload_n 0, 1) := by decide +kernel
theorem d_X11_soon_60 : decode prog_1_method_13_code 60 = .ok (.getfield 60, 3) := by decide +kernel
theorem d_X11_soon_63 : decode prog_1_method_13_code 63 = .ok (.getfield 144, 3) := by decide +kernel
theorem d_X11_soon_66 : decode prog_1_method_13_code 66 = .ok (.iload_n 3, 1) := by decide +kernel
theorem d_X11_soon_67 : decode prog_1_method_13_code 67 = .ok (.iadd, 1) := by decide +kernel
theorem d_X11_soon_68 : decode prog_1_method_13_code 68 = .ok (.invokevirtual 193, 3) := by decide +kernel
theorem d_X11_soon_71 : decode prog_1_method_13_code 71 = .ok (.iload_n 2, 1) := by decide +kernel
theorem d_X11_soon_72 : decode prog_1_method_13_code 72 = .ok (.if_icmp .lt 5, 3) := by decide +kernel
theorem d_X11_soon_75 : decode prog_1_method_13_code 75 = .ok (.iload_n 3, 1) := by decide +kernel
theorem d_X11_soon_76 : decode prog_1_method_13_code 76 = .ok (.ireturn, 1) := by decide +kernel
theorem d_X11_soon_77 : decode prog_1_method_13_code 77 = .ok (.aload_n 0, 1) := by decide +kernel
theorem d_X11_soon_78 : decode prog_1_method_13_code 78 = .ok (.getfield 72, 3) := by decide +kernel
theorem d_X11_soon_81 : decode prog_1_method_13_code 81 = .ok (.aload_n 0, 1) := by decide +kernel
theorem d_X11_soon_82 : decode prog_1_method_13_code 82 = .ok (.getfield 60, 3) := by decide +kernel
theorem d_X11_soon_85 : decode prog_1_method_13_code 85 = .ok (.getfield 144, 3) := by decide +kernel
theorem d_X11_soon_88 : decode prog_1_method_13_code 88 = .ok (.iload_n 3, 1) := by decide +kernel
theorem d_X11_soon_89 : decode prog_1_method_13_code 89 = .ok (.iadd, 1) := by decide +kernel
theorem d_X11_soon_90 : decode prog_1_method_13_code 90 = .ok (.invokevirtual 179, 3) := by decide +kernel
theorem d_X11_soon_93 : decode prog_1_method_13_code 93 = .ok (.iinc 3 1, 3) := by decide +kernel
theorem d_X11_soon_96 : decode prog_1_method_13_code 96 = .ok (.goto (-54), 3) := by decide +kernel
theorem d_X11_soon_99 : decode prog_1_method_13_code 99 = .ok (.bipush (-5), 2) := by decide +kernel
theorem d_X11_soon_101 : decode prog_1_method_13_code 101 = .ok (.ireturn, 1) := by decide +kernel
def f_X11_soon (a0 : Nat) (a1 : Int32) (a2 : Int32) (μ : gm_M) : Option (Option Value × gm_M) := if gm_tag μ a0 = 16 then gm_bI (f_X11_isNobody a0 a1 μ) (fun x2 m1 => if x2 = 0 then gm_bI (f_X11_isOutside a2 (1 : Int32) (999 : Int32) m1) (fun x4 m3 => if x4 = 0 then gm_gR m3 [16] a0 5 (fun v5 => gm_gR m3 [16] a0 1 (fun v6 => gm_gR m3 [13] v6 2 (fun v7 => gm_aR m3 4 v7 a1 (fun v8 => if gm_tag m3 v5 = 7 then gm_bV (f_X2_copy v5 v8 m3) (fun m9 => gm_loop (fun (s11 : Int32 × gm_M) => if (60 : Int32) < s11.1 then some (Sum.inr (some (.int (-5 : Int32)), s11.2)) else gm_gR s11.2 [16] a0 5 (fun v12 => gm_gR s11.2 [16] a0 1 (fun v13 => gm_gR s11.2 [13] v13 6 (fun v14 => gm_gR s11.2 [16] a0 1 (fun v15 => gm_gI s11.2 [13] v15 0 (fun v16 => if gm_tag s11.2 v12 = 7 then gm_bI (f_X2_holds v12 v14 (v16 + s11.1) s11.2) (fun x18 m17 => if x18 < a2 then gm_gR m17 [16] a0 5 (fun v19 => gm_gR m17 [16] a0 1 (fun v20 => gm_gI m17 [13] v20 0 (fun v21 => if gm_tag m17 v19 = 7 then gm_bV (f_X2_passMinute v19 (v21 + s11.1) m17) (fun m22 => some (Sum.inl ((s11.1 + (1 : Int32)), m22))) else none))) else some (Sum.inr (some (.int s11.1), m17))) else none)))))) 5000 ((0 : Int32), m9)) else none)))) else some (some (.int (-2 : Int32)), m3)) else some (some (.int (-1 : Int32)), m1)) else none
set_option maxHeartbeats 4000000 in
theorem c_X11_soon (a0 : Nat) (a1 : Int32) (a2 : Int32) (μ : gm_M) : gm_Call ({ cls := "GumBubble", name := "soon", desc := "(II)I" } : Jvm.MethodName) prog_1_method_13_code 4 (some .int) 4 0 0 [.ref a0, .int a1, .int a2] μ (f_X11_soon a0 a1 a2 μ) := by
  refine gm_start PN_11 (Nat.le_of_ble_eq_true rfl) (fun res μe => ?_)
  unfold f_X11_soon
  show gm_A "GumBubble" (gm_nm "soon") _ _ _ _ _ _ _ _ _ 0 [(0, .ref a0), (1, .int a1), (2, .int a2)] [] _ _
  refine gm_aload_n d_X11_soon_0 rfl 0 rfl ?_
  refine gm_iload_n d_X11_soon_1 rfl 1 rfl ?_
  refine gm_grd (fun g2 => ?_)
  refine gm_callV (k0 := 11) [.int a1] (c_X11_isNobody a0 a1 μ) g2 rfl B_X11_isNobody gw_478 gs_11 rfl rfl rfl d_X11_soon_2 (gm_kI (fun x2 m1 => ?_))
  refine gm_if_eq (tgt := 10) d_X11_soon_5 (by decide) (fun h5 => ?_) (fun h5 => ?_)
  ·
    refine gm_iload_n d_X11_soon_10 rfl 2 rfl ?_
    refine gm_iconst (v := 1) d_X11_soon_11 (by decide) ?_
    refine gm_sipush (v := 999) d_X11_soon_12 (by decide) ?_
    refine gm_callS [.int a2, .int (1 : Int32), .int (999 : Int32)] (c_X11_isOutside a2 (1 : Int32) (999 : Int32) m1) B_X11_isOutside gw_296 rfl rfl rfl d_X11_soon_15 (gm_kI (fun x4 m3 => ?_))
    refine gm_if_eq (tgt := 24) d_X11_soon_18 (by decide) (fun h18 => ?_) (fun h18 => ?_)
    ·
      refine gm_aload_n d_X11_soon_24 rfl 0 rfl ?_
      refine gm_getR F_11_trial gw_266 d_X11_soon_25 (fun v5 _ => ?_)
      refine gm_aload_n d_X11_soon_28 rfl 0 rfl ?_
      refine gm_getR F_11_now gw_262 d_X11_soon_29 (fun v6 _ => ?_)
      refine gm_getR F_8_children gw_223 d_X11_soon_32 (fun v7 _ => ?_)
      refine gm_iload_n d_X11_soon_35 rfl 1 rfl ?_
      refine gm_aald (Or.inr rfl) d_X11_soon_36 (fun v8 _ => ?_)
      refine gm_grd (fun g37 => ?_)
      refine gm_callV (k0 := 2) [.ref v8] (c_X2_copy v5 v8 m3) g37 rfl B_X2_copy gw_585 gw_587 rfl rfl rfl d_X11_soon_37 (gm_kV (fun m9 => ?_))
      refine gm_iconst (v := 0) d_X11_soon_40 (by decide) ?_
      refine gm_istore_n (L' := [(3, .int (0 : Int32)), (0, .ref a0), (1, .int a1), (2, .int a2)]) d_X11_soon_41 rfl (Nat.le_of_ble_eq_true rfl) rfl ?_
      refine gm_sub (L' := [(0, .ref a0), (1, .int a1), (2, .int a2), (3, .int (0 : Int32))]) [1, 2, 3, 0] rfl ?_
      refine gm_lp (S := Int32 × gm_M) (fun _ => 0) (fun _ => 0) (fun s11 => s11.2) (fun s11 => [(0, .ref a0), (1, .int a1), (2, .int a2), (3, .int s11.1)]) (fun _ => []) (fun s11 => ?_) 5000 ((0 : Int32), m9)
      refine gm_iload_n d_X11_soon_42 rfl 3 rfl ?_
      refine gm_bipush (v := 60) d_X11_soon_43 (by decide) ?_
      refine gm_icmp_gt (tgt := 99) d_X11_soon_45 (by decide) (fun h45 => ?_) (fun h45 => ?_)
      ·
        refine gm_bipush (v := -5) d_X11_soon_99 (by decide) ?_
        exact gm_iret rfl d_X11_soon_101 (Nat.le_of_ble_eq_true rfl) (Nat.le_of_ble_eq_true rfl) (fun h => h)
      ·
        refine gm_aload_n d_X11_soon_48 rfl 0 rfl ?_
        refine gm_getR F_11_trial gw_266 d_X11_soon_49 (fun v12 _ => ?_)
        refine gm_aload_n d_X11_soon_52 rfl 0 rfl ?_
        refine gm_getR F_11_now gw_262 d_X11_soon_53 (fun v13 _ => ?_)
        refine gm_getR F_8_afternoon gw_231 d_X11_soon_56 (fun v14 _ => ?_)
        refine gm_aload_n d_X11_soon_59 rfl 0 rfl ?_
        refine gm_getR F_11_now gw_262 d_X11_soon_60 (fun v15 _ => ?_)
        refine gm_getI F_8_minute gw_219 d_X11_soon_63 (fun v16 _ => ?_)
        refine gm_iload_n d_X11_soon_66 rfl 3 rfl ?_
        refine gm_iadd d_X11_soon_67 ?_
        refine gm_grd (fun g68 => ?_)
        refine gm_callV (k0 := 2) [.ref v14, .int (v16 + s11.1)] (c_X2_holds v12 v14 (v16 + s11.1) s11.2) g68 rfl B_X2_holds gw_545 gw_547 rfl rfl rfl d_X11_soon_68 (gm_kI (fun x18 m17 => ?_))
        refine gm_iload_n d_X11_soon_71 rfl 2 rfl ?_
        refine gm_icmp_lt (tgt := 77) d_X11_soon_72 (by decide) (fun h72 => ?_) (fun h72 => ?_)
        ·
          refine gm_aload_n d_X11_soon_77 rfl 0 rfl ?_
          refine gm_getR F_11_trial gw_266 d_X11_soon_78 (fun v19 _ => ?_)
          refine gm_aload_n d_X11_soon_81 rfl 0 rfl ?_
          refine gm_getR F_11_now gw_262 d_X11_soon_82 (fun v20 _ => ?_)
          refine gm_getI F_8_minute gw_219 d_X11_soon_85 (fun v21 _ => ?_)
          refine gm_iload_n d_X11_soon_88 rfl 3 rfl ?_
          refine gm_iadd d_X11_soon_89 ?_
          refine gm_grd (fun g90 => ?_)
          refine gm_callV (k0 := 2) [.int (v21 + s11.1)] (c_X2_passMinute v19 (v21 + s11.1) m17) g90 rfl B_X2_passMinute gw_596 gw_598 rfl rfl rfl d_X11_soon_90 (gm_kV (fun m22 => ?_))
          refine gm_iinc (v := s11.1 + (1 : Int32)) (L' := [(3, .int (s11.1 + (1 : Int32))), (0, .ref a0), (1, .int a1), (2, .int a2)]) d_X11_soon_93 3 rfl rfl (Nat.le_of_ble_eq_true rfl) rfl ?_
          refine gm_goto (tgt := 42) d_X11_soon_96 (by decide) ?_
          refine gm_sub (L' := [(0, .ref a0), (1, .int a1), (2, .int a2), (3, .int (s11.1 + (1 : Int32)))]) [1, 2, 3, 0] rfl ?_
          exact gm_back (fun h => h)
        ·
          refine gm_iload_n d_X11_soon_75 rfl 3 rfl ?_
          exact gm_iret rfl d_X11_soon_76 (Nat.le_of_ble_eq_true rfl) (Nat.le_of_ble_eq_true rfl) (fun h => h)
    ·
      refine gm_bipush (v := -2) d_X11_soon_21 (by decide) ?_
      exact gm_iret rfl d_X11_soon_23 (Nat.le_of_ble_eq_true rfl) (Nat.le_of_ble_eq_true rfl) (fun h => h)
  ·
    refine gm_iconst (v := -1) d_X11_soon_8 (by decide) ?_
    exact gm_iret rfl d_X11_soon_9 (Nat.le_of_ble_eq_true rfl) (Nat.le_of_ble_eq_true rfl) (fun h => h)
theorem d_X11_swap_0 : decode prog_1_method_21_code 0 = .ok (.iconst 0, 1) := by decide +kernel
theorem d_X11_swap_1 : decode prog_1_method_21_code 1 = .ok (.istore_n 1, 1) := by decide +kernel
theorem d_X11_swap_2 : decode prog_1_method_21_code 2 = .ok (.bipush (-5), 2) := by decide +kernel
theorem d_X11_swap_4 : decode prog_1_method_21_code 4 = .ok (.istore_n 2, 1) := by decide +kernel
theorem d_X11_swap_5 : decode prog_1_method_21_code 5 = .ok (.iconst 0, 1) := by decide +kernel
theorem d_X11_swap_6 : decode prog_1_method_21_code 6 = .ok (.istore_n 3, 1) := by decide +kernel
theorem d_X11_swap_7 : decode prog_1_method_21_code 7 = .ok (.iload_n 3, 1) := by decide +kernel
theorem d_X11_swap_8 : decode prog_1_method_21_code 8 = .ok (.aload_n 0, 1) := by decide +kernel
theorem d_X11_swap_9 : decode prog_1_method_21_code 9 = .ok (.getfield 60, 3) := by decide +kernel
theorem d_X11_swap_12 : decode prog_1_method_21_code 12 = .ok (.getfield 101, 3) := by decide +kernel
theorem d_X11_swap_15 : decode prog_1_method_21_code 15 = .ok (.if_icmp .ge 79, 3) := by decide +kernel
theorem d_X11_swap_18 : decode prog_1_method_21_code 18 = .ok (.iload_n 3, 1) := by decide +kernel
theorem d_X11_swap_19 : decode prog_1_method_21_code 19 = .ok (.iconst 1, 1) := by decide +kernel
theorem d_X11_swap_20 : decode prog_1_method_21_code 20 = .ok (.iadd, 1) := by decide +kernel
theorem d_X11_swap_21 : decode prog_1_method_21_code 21 = .ok (.istore 4, 2) := by decide +kernel
theorem d_X11_swap_23 : decode prog_1_method_21_code 23 = .ok (.iload 4, 2) := by decide +kernel
theorem d_X11_swap_25 : decode prog_1_method_21_code 25 = .ok (.aload_n 0, 1) := by decide +kernel
theorem d_X11_swap_26 : decode prog_1_method_21_code 26 = .ok (.getfield 60, 3) := by decide +kernel
theorem d_X11_swap_29 : decode prog_1_method_21_code 29 = .ok (.getfield 101, 3) := by decide +kernel
theorem d_X11_swap_32 : decode prog_1_method_21_code 32 = .ok (.if_icmp .ge 56, 3) := by decide +kernel
theorem d_X11_swap_35 : decode prog_1_method_21_code 35 = .ok (.aload_n 0, 1) := by decide +kernel
theorem d_X11_swap_36 : decode prog_1_method_21_code 36 = .ok (.iload_n 3, 1) := by decide +kernel
theorem d_X11_swap_37 : decode prog_1_method_21_code 37 = .ok (.iload 4, 2) := by decide +kernel
theorem d_X11_swap_39 : decode prog_1_method_21_code 39 = .ok (.invokevirtual 220, 3) := by decide +kernel
theorem d_X11_swap_42 : decode prog_1_method_21_code 42 = .ok (.aload_n 0, 1) := by decide +kernel
theorem d_X11_swap_43 : decode prog_1_method_21_code 43 = .ok (.iload 4, 2) := by decide +kernel
theorem d_X11_swap_45 : decode prog_1_method_21_code 45 = .ok (.iload_n 3, 1) := by decide +kernel
theorem d_X11_swap_46 : decode prog_1_method_21_code 46 = .ok (.invokevirtual 220, 3) := by decide +kernel
theorem d_X11_swap_49 : decode prog_1_method_21_code 49 = .ok (.iadd, 1) := by decide +kernel
theorem d_X11_swap_50 : decode prog_1_method_21_code 50 = .ok (.aload_n 0, 1) := by decide +kernel
theorem d_X11_swap_51 : decode prog_1_method_21_code 51 = .ok (.iload_n 3, 1) := by decide +kernel
theorem d_X11_swap_52 : decode prog_1_method_21_code 52 = .ok (.invokevirtual 158, 3) := by decide +kernel
theorem d_X11_swap_55 : decode prog_1_method_21_code 55 = .ok (.isub, 1) := by decide +kernel
theorem d_X11_swap_56 : decode prog_1_method_21_code 56 = .ok (.aload_n 0, 1) := by decide +kernel
theorem d_X11_swap_57 : decode prog_1_method_21_code 57 = .ok (.iload 4, 2) := by decide +kernel
theorem d_X11_swap_59 : decode prog_1_method_21_code 59 = .ok (.invokevirtual 158, 3) := by decide +kernel
theorem d_X11_swap_62 : decode prog_1_method_21_code 62 = .ok (.isub, 1) := by decide +kernel
theorem d_X11_swap_63 : decode prog_1_method_21_code 63 = .ok (.istore 5, 2) := by decide +kernel
theorem d_X11_swap_65 : decode prog_1_method_21_code 65 = .ok (.iload 5, 2) := by decide +kernel
theorem d_X11_swap_67 : decode prog_1_method_21_code 67 = .ok (.iload_n 1, 1) := by decide +kernel
theorem d_X11_swap_68 : decode prog_1_method_21_code 68 = .ok (.if_icmp .le 14, 3) := by decide +kernel
theorem d_X11_swap_71 : decode prog_1_method_21_code 71 = .ok (.iload 5, 2) := by decide +kernel
theorem d_X11_swap_73 : decode prog_1_method_21_code 73 = .ok (.istore_n 1, 1) := by decide +kernel
theorem d_X11_swap_74 : decode prog_1_method_21_code 74 = .ok (.bipush 10, 2) := by decide +kernel
theorem d_X11_swap_76 : decode prog_1_method_21_code 76 = .ok (.iload_n 3, 1) := by decide +kernel
theorem d_X11_swap_77 : decode prog_1_method_21_code 77 = .ok (.imul, 1) := by decide +kernel
theorem d_X11_swap_78 : decode prog_1_method_21_code 78 = .ok (.iload 4, 2) := by decide +kernel
theorem d_X11_swap_80 : decode prog_1_method_21_code 80 = .ok (.iadd, 1) := by decide +kernel
theorem d_X11_swap_81 : decode prog_1_method_21_code 81 = .ok (.istore_n 2, 1) := by decide +kernel
theorem d_X11_swap_82 : decode prog_1_method_21_code 82 = .ok (.iinc 4 1, 3) := by decide +kernel
theorem d_X11_swap_85 : decode prog_1_method_21_code 85 = .ok (.goto (-62), 3) := by decide +kernel
theorem d_X11_swap_88 : decode prog_1_method_21_code 88 = .ok (.iinc 3 1, 3) := by decide +kernel
theorem d_X11_swap_91 : decode prog_1_method_21_code 91 = .ok (.goto (-84), 3) := by decide +kernel
theorem d_X11_swap_94 : decode prog_1_method_21_code 94 = .ok (.iload_n 2, 1) := by decide +kernel
theorem d_X11_swap_95 : decode prog_1_method_21_code 95 = .ok (.ireturn, 1) := by decide +kernel
def f_X11_swap (a0 : Nat) (μ : gm_M) : Option (Option Value × gm_M) := gm_loop (fun (s1 : Int32 × Int32 × Int32 × gm_M) => gm_gR s1.2.2.2 [16] a0 1 (fun v2 => gm_gI s1.2.2.2 [13] v2 1 (fun v3 => if v3 ≤ s1.2.2.1 then some (Sum.inr (some (.int s1.2.1), s1.2.2.2)) else gm_loop (fun (s4 : Int32 × Int32 × Int32 × gm_M) => gm_gR s4.2.2.2 [16] a0 1 (fun v5 => gm_gI s4.2.2.2 [13] v5 1 (fun v6 => if v6 ≤ s4.2.2.1 then some (Sum.inr (Sum.inl (s4.1, s4.2.1, (s1.2.2.1 + (1 : Int32)), s4.2.2.2))) else if gm_tag s4.2.2.2 a0 = 16 then gm_bI (f_X11_holdsWithGumOf a0 s1.2.2.1 s4.2.2.1 s4.2.2.2) (fun x8 m7 => if gm_tag m7 a0 = 16 then gm_bI (f_X11_holdsWithGumOf a0 s4.2.2.1 s1.2.2.1 m7) (fun x10 m9 => if gm_tag m9 a0 = 16 then gm_bI (f_X11_holdsNow a0 s1.2.2.1 m9) (fun x12 m11 => if gm_tag m11 a0 = 16 then gm_bI (f_X11_holdsNow a0 s4.2.2.1 m11) (fun x14 m13 => gm_j (fun (s15 : Int32 × Int32) => some (Sum.inl (s15.1, s15.2, (s4.2.2.1 + (1 : Int32)), m13))) (fun j16 => if (((x8 + x10) - x12) - x14) ≤ s4.1 then j16 (s4.1, s4.2.1) else j16 ((((x8 + x10) - x12) - x14), (((10 : Int32) * s1.2.2.1) + s4.2.2.1)))) else none) else none) else none) else none))) 5000 (s1.1, s1.2.1, (s1.2.2.1 + (1 : Int32)), s1.2.2.2)))) 5000 ((0 : Int32), (-5 : Int32), (0 : Int32), μ)
set_option maxHeartbeats 4000000 in
theorem c_X11_swap (a0 : Nat) (μ : gm_M) : gm_Call ({ cls := "GumBubble", name := "swap", desc := "()I" } : Jvm.MethodName) prog_1_method_21_code 6 (some .int) 6 0 0 [.ref a0] μ (f_X11_swap a0 μ) := by
  refine gm_start PN_11 (Nat.le_of_ble_eq_true rfl) (fun res μe => ?_)
  unfold f_X11_swap
  show gm_A "GumBubble" (gm_nm "swap") _ _ _ _ _ _ _ _ _ 0 [(0, .ref a0)] [] _ _
  refine gm_iconst (v := 0) d_X11_swap_0 (by decide) ?_
  refine gm_istore_n (L' := [(1, .int (0 : Int32)), (0, .ref a0)]) d_X11_swap_1 rfl (Nat.le_of_ble_eq_true rfl) rfl ?_
  refine gm_bipush (v := -5) d_X11_swap_2 (by decide) ?_
  refine gm_istore_n (L' := [(2, .int (-5 : Int32)), (1, .int (0 : Int32)), (0, .ref a0)]) d_X11_swap_4 rfl (Nat.le_of_ble_eq_true rfl) rfl ?_
  refine gm_iconst (v := 0) d_X11_swap_5 (by decide) ?_
  refine gm_istore_n (L' := [(3, .int (0 : Int32)), (2, .int (-5 : Int32)), (1, .int (0 : Int32)), (0, .ref a0)]) d_X11_swap_6 rfl (Nat.le_of_ble_eq_true rfl) rfl ?_
  refine gm_sub (L' := [(0, .ref a0), (1, .int (0 : Int32)), (2, .int (-5 : Int32)), (3, .int (0 : Int32))]) [3, 2, 1, 0] rfl ?_
  refine gm_lp (S := Int32 × Int32 × Int32 × gm_M) (fun _ => 0) (fun _ => 0) (fun s1 => s1.2.2.2) (fun s1 => [(0, .ref a0), (1, .int s1.1), (2, .int s1.2.1), (3, .int s1.2.2.1)]) (fun _ => []) (fun s1 => ?_) 5000 ((0 : Int32), (-5 : Int32), (0 : Int32), μ)
  refine gm_iload_n d_X11_swap_7 rfl 3 rfl ?_
  refine gm_aload_n d_X11_swap_8 rfl 0 rfl ?_
  refine gm_getR F_11_now gw_262 d_X11_swap_9 (fun v2 _ => ?_)
  refine gm_getI F_8_size gw_221 d_X11_swap_12 (fun v3 _ => ?_)
  refine gm_icmp_ge (tgt := 94) d_X11_swap_15 (by decide) (fun h15 => ?_) (fun h15 => ?_)
  ·
    refine gm_iload_n d_X11_swap_94 rfl 2 rfl ?_
    exact gm_iret rfl d_X11_swap_95 (Nat.le_of_ble_eq_true rfl) (Nat.le_of_ble_eq_true rfl) (fun h => h)
  ·
    refine gm_iload_n d_X11_swap_18 rfl 3 rfl ?_
    refine gm_iconst (v := 1) d_X11_swap_19 (by decide) ?_
    refine gm_iadd d_X11_swap_20 ?_
    refine gm_istore (L' := [(4, .int (s1.2.2.1 + (1 : Int32))), (0, .ref a0), (1, .int s1.1), (2, .int s1.2.1), (3, .int s1.2.2.1)]) d_X11_swap_21 (Nat.le_of_ble_eq_true rfl) rfl ?_
    refine gm_sub (L' := [(0, .ref a0), (1, .int s1.1), (2, .int s1.2.1), (3, .int s1.2.2.1), (4, .int (s1.2.2.1 + (1 : Int32)))]) [1, 2, 3, 4, 0] rfl ?_
    refine gm_lp (S := Int32 × Int32 × Int32 × gm_M) (fun _ => 0) (fun _ => 0) (fun s4 => s4.2.2.2) (fun s4 => [(0, .ref a0), (1, .int s4.1), (2, .int s4.2.1), (3, .int s1.2.2.1), (4, .int s4.2.2.1)]) (fun _ => []) (fun s4 => ?_) 5000 (s1.1, s1.2.1, (s1.2.2.1 + (1 : Int32)), s1.2.2.2)
    refine gm_iload d_X11_swap_23 4 rfl ?_
    refine gm_aload_n d_X11_swap_25 rfl 0 rfl ?_
    refine gm_getR F_11_now gw_262 d_X11_swap_26 (fun v5 _ => ?_)
    refine gm_getI F_8_size gw_221 d_X11_swap_29 (fun v6 _ => ?_)
    refine gm_icmp_ge (tgt := 88) d_X11_swap_32 (by decide) (fun h32 => ?_) (fun h32 => ?_)
    ·
      refine gm_iinc (v := s1.2.2.1 + (1 : Int32)) (L' := [(3, .int (s1.2.2.1 + (1 : Int32))), (0, .ref a0), (1, .int s4.1), (2, .int s4.2.1), (4, .int s4.2.2.1)]) d_X11_swap_88 3 rfl rfl (Nat.le_of_ble_eq_true rfl) rfl ?_
      refine gm_goto (tgt := 7) d_X11_swap_91 (by decide) ?_
      refine gm_sub (L' := [(0, .ref a0), (1, .int s4.1), (2, .int s4.2.1), (3, .int (s1.2.2.1 + (1 : Int32)))]) [1, 2, 3, 0] rfl ?_
      exact gm_back (fun h => h)
    ·
      refine gm_aload_n d_X11_swap_35 rfl 0 rfl ?_
      refine gm_iload_n d_X11_swap_36 rfl 3 rfl ?_
      refine gm_iload d_X11_swap_37 4 rfl ?_
      refine gm_grd (fun g39 => ?_)
      refine gm_callV (k0 := 11) [.int s1.2.2.1, .int s4.2.2.1] (c_X11_holdsWithGumOf a0 s1.2.2.1 s4.2.2.1 s4.2.2.2) g39 rfl B_X11_holdsWithGumOf gw_685 gs_19 rfl rfl rfl d_X11_swap_39 (gm_kI (fun x8 m7 => ?_))
      refine gm_aload_n d_X11_swap_42 rfl 0 rfl ?_
      refine gm_iload d_X11_swap_43 4 rfl ?_
      refine gm_iload_n d_X11_swap_45 rfl 3 rfl ?_
      refine gm_grd (fun g46 => ?_)
      refine gm_callV (k0 := 11) [.int s4.2.2.1, .int s1.2.2.1] (c_X11_holdsWithGumOf a0 s4.2.2.1 s1.2.2.1 m7) g46 rfl B_X11_holdsWithGumOf gw_685 gs_19 rfl rfl rfl d_X11_swap_46 (gm_kI (fun x10 m9 => ?_))
      refine gm_iadd d_X11_swap_49 ?_
      refine gm_aload_n d_X11_swap_50 rfl 0 rfl ?_
      refine gm_iload_n d_X11_swap_51 rfl 3 rfl ?_
      refine gm_grd (fun g52 => ?_)
      refine gm_callV (k0 := 11) [.int s1.2.2.1] (c_X11_holdsNow a0 s1.2.2.1 m9) g52 rfl B_X11_holdsNow gw_541 gs_13 rfl rfl rfl d_X11_swap_52 (gm_kI (fun x12 m11 => ?_))
      refine gm_isub d_X11_swap_55 ?_
      refine gm_aload_n d_X11_swap_56 rfl 0 rfl ?_
      refine gm_iload d_X11_swap_57 4 rfl ?_
      refine gm_grd (fun g59 => ?_)
      refine gm_callV (k0 := 11) [.int s4.2.2.1] (c_X11_holdsNow a0 s4.2.2.1 m11) g59 rfl B_X11_holdsNow gw_541 gs_13 rfl rfl rfl d_X11_swap_59 (gm_kI (fun x14 m13 => ?_))
      refine gm_isub d_X11_swap_62 ?_
      refine gm_istore (L' := [(5, .int (((x8 + x10) - x12) - x14)), (0, .ref a0), (1, .int s4.1), (2, .int s4.2.1), (3, .int s1.2.2.1), (4, .int s4.2.2.1)]) d_X11_swap_63 (Nat.le_of_ble_eq_true rfl) rfl ?_
      refine gm_iload d_X11_swap_65 0 rfl ?_
      refine gm_iload_n d_X11_swap_67 rfl 2 rfl ?_
      refine gm_join (S := Int32 × Int32) (pj := 82) (kj := 0) (nj := 0) (fun s15 => m13) (fun s15 => [(0, .ref a0), (1, .int s15.1), (2, .int s15.2), (3, .int s1.2.2.1), (4, .int s4.2.2.1), (5, .int (((x8 + x10) - x12) - x14))]) (fun s15 => []) (fun s15 => ?_) (fun j16 hj16 => ?_)
      ·
        refine gm_iinc (v := s4.2.2.1 + (1 : Int32)) (L' := [(4, .int (s4.2.2.1 + (1 : Int32))), (0, .ref a0), (1, .int s15.1), (2, .int s15.2), (3, .int s1.2.2.1), (5, .int (((x8 + x10) - x12) - x14))]) d_X11_swap_82 4 rfl rfl (Nat.le_of_ble_eq_true rfl) rfl ?_
        refine gm_goto (tgt := 23) d_X11_swap_85 (by decide) ?_
        refine gm_sub (L' := [(0, .ref a0), (1, .int s15.1), (2, .int s15.2), (3, .int s1.2.2.1), (4, .int (s4.2.2.1 + (1 : Int32)))]) [1, 2, 3, 4, 0] rfl ?_
        exact gm_back (fun h => h)
      ·
        refine gm_icmp_le (tgt := 82) d_X11_swap_68 (by decide) (fun h68 => ?_) (fun h68 => ?_)
        ·
          refine gm_sub (L' := [(0, .ref a0), (1, .int s4.1), (2, .int s4.2.1), (3, .int s1.2.2.1), (4, .int s4.2.2.1), (5, .int (((x8 + x10) - x12) - x14))]) [1, 2, 3, 4, 5, 0] rfl ?_
          exact hj16 (s4.1, s4.2.1)
        ·
          refine gm_iload d_X11_swap_71 0 rfl ?_
          refine gm_istore_n (L' := [(1, .int (((x8 + x10) - x12) - x14)), (5, .int (((x8 + x10) - x12) - x14)), (0, .ref a0), (2, .int s4.2.1), (3, .int s1.2.2.1), (4, .int s4.2.2.1)]) d_X11_swap_73 rfl (Nat.le_of_ble_eq_true rfl) rfl ?_
          refine gm_bipush (v := 10) d_X11_swap_74 (by decide) ?_
          refine gm_iload_n d_X11_swap_76 rfl 4 rfl ?_
          refine gm_imul d_X11_swap_77 ?_
          refine gm_iload d_X11_swap_78 5 rfl ?_
          refine gm_iadd d_X11_swap_80 ?_
          refine gm_istore_n (L' := [(2, .int (((10 : Int32) * s1.2.2.1) + s4.2.2.1)), (1, .int (((x8 + x10) - x12) - x14)), (5, .int (((x8 + x10) - x12) - x14)), (0, .ref a0), (3, .int s1.2.2.1), (4, .int s4.2.2.1)]) d_X11_swap_81 rfl (Nat.le_of_ble_eq_true rfl) rfl ?_
          refine gm_sub (L' := [(0, .ref a0), (1, .int (((x8 + x10) - x12) - x14)), (2, .int (((10 : Int32) * s1.2.2.1) + s4.2.2.1)), (3, .int s1.2.2.1), (4, .int s4.2.2.1), (5, .int (((x8 + x10) - x12) - x14))]) [3, 1, 0, 4, 5, 2] rfl ?_
          exact hj16 ((((x8 + x10) - x12) - x14), (((10 : Int32) * s1.2.2.1) + s4.2.2.1))
theorem d_X11_told_0 : decode prog_1_method_8_code 0 = .ok (.iload_n 1, 1) := by decide +kernel
theorem d_X11_told_1 : decode prog_1_method_8_code 1 = .ok (.tableswitch 76 0 4 #[35, 43, 54, 65, 71], 35) := by decide +kernel
theorem d_X11_told_36 : decode prog_1_method_8_code 36 = .ok (.aload_n 0, 1) := by decide +kernel
theorem d_X11_told_37 : decode prog_1_method_8_code 37 = .ok (.getfield 60, 3) := by decide +kernel
theorem d_X11_told_40 : decode prog_1_method_8_code 40 = .ok (.getfield 144, 3) := by decide +kernel
theorem d_X11_told_43 : decode prog_1_method_8_code 43 = .ok (.ireturn, 1) := by decide +kernel
theorem d_X11_told_44 : decode prog_1_method_8_code 44 = .ok (.aload_n 0, 1) := by decide +kernel
theorem d_X11_told_45 : decode prog_1_method_8_code 45 = .ok (.getfield 60, 3) := by decide +kernel
theorem d_X11_told_48 : decode prog_1_method_8_code 48 = .ok (.getfield 97, 3) := by decide +kernel
theorem d_X11_told_51 : decode prog_1_method_8_code 51 = .ok (.getfield 165, 3) := by decide +kernel
theorem d_X11_told_54 : decode prog_1_method_8_code 54 = .ok (.ireturn, 1) := by decide +kernel
theorem d_X11_told_55 : decode prog_1_method_8_code 55 = .ok (.aload_n 0, 1) := by decide +kernel
theorem d_X11_told_56 : decode prog_1_method_8_code 56 = .ok (.getfield 60, 3) := by decide +kernel
theorem d_X11_told_59 : decode prog_1_method_8_code 59 = .ok (.getfield 97, 3) := by decide +kernel
theorem d_X11_told_62 : decode prog_1_method_8_code 62 = .ok (.getfield 108, 3) := by decide +kernel
theorem d_X11_told_65 : decode prog_1_method_8_code 65 = .ok (.ireturn, 1) := by decide +kernel
theorem d_X11_told_66 : decode prog_1_method_8_code 66 = .ok (.aload_n 0, 1) := by decide +kernel
theorem d_X11_told_67 : decode prog_1_method_8_code 67 = .ok (.iconst 0, 1) := by decide +kernel
theorem d_X11_told_68 : decode prog_1_method_8_code 68 = .ok (.invokevirtual 168, 3) := by decide +kernel
theorem d_X11_told_71 : decode prog_1_method_8_code 71 = .ok (.ireturn, 1) := by decide +kernel
theorem d_X11_told_72 : decode prog_1_method_8_code 72 = .ok (.aload_n 0, 1) := by decide +kernel
theorem d_X11_told_73 : decode prog_1_method_8_code 73 = .ok (.invokevirtual 171, 3) := by decide +kernel
theorem d_X11_told_76 : decode prog_1_method_8_code 76 = .ok (.ireturn, 1) := by decide +kernel
theorem d_X11_told_77 : decode prog_1_method_8_code 77 = .ok (.iconst (-1), 1) := by decide +kernel
theorem d_X11_told_78 : decode prog_1_method_8_code 78 = .ok (.ireturn, 1) := by decide +kernel
def f_X11_told (a0 : Nat) (a1 : Int32) (μ : gm_M) : Option (Option Value × gm_M) := if a1 = 0 then gm_gR μ [16] a0 1 (fun v1 => gm_gI μ [13] v1 0 (fun v2 => some (some (.int v2), μ))) else if a1 = 1 then gm_gR μ [16] a0 1 (fun v3 => gm_gR μ [13] v3 6 (fun v4 => gm_gI μ [5] v4 0 (fun v5 => some (some (.int v5), μ)))) else if a1 = 2 then gm_gR μ [16] a0 1 (fun v6 => gm_gR μ [13] v6 6 (fun v7 => gm_gI μ [5] v7 1 (fun v8 => some (some (.int v8), μ)))) else if a1 = 3 then if gm_tag μ a0 = 16 then gm_bI (f_X11_sumBehind a0 (0 : Int32) μ) (fun x10 m9 => some (some (.int x10), m9)) else none else if a1 = 4 then if gm_tag μ a0 = 16 then gm_bI (f_X11_bubbleBits a0 μ) (fun x12 m11 => some (some (.int x12), m11)) else none else some (some (.int (-1 : Int32)), μ)
set_option maxHeartbeats 4000000 in
theorem c_X11_told (a0 : Nat) (a1 : Int32) (μ : gm_M) : gm_Call ({ cls := "GumBubble", name := "told", desc := "(I)I" } : Jvm.MethodName) prog_1_method_8_code 2 (some .int) 7 0 0 [.ref a0, .int a1] μ (f_X11_told a0 a1 μ) := by
  refine gm_start PN_11 (Nat.le_of_ble_eq_true rfl) (fun res μe => ?_)
  unfold f_X11_told
  show gm_A "GumBubble" (gm_nm "told") _ _ _ _ _ _ _ _ _ 0 [(0, .ref a0), (1, .int a1)] [] _ _
  refine gm_iload_n d_X11_told_0 rfl 1 rfl ?_
  refine gm_ite (P := a1 = 0) (fun h1_0 => ?_) (fun h1_0 => ?_)
  ·
    refine gm_swIn (v := 0) (off := 35) (tgt := 36) d_X11_told_1 (by rw [h1_0] <;> rfl) (by decide) (by decide) (by decide) (by decide) ?_
    refine gm_aload_n d_X11_told_36 rfl 0 rfl ?_
    refine gm_getR F_11_now gw_262 d_X11_told_37 (fun v1 _ => ?_)
    refine gm_getI F_8_minute gw_219 d_X11_told_40 (fun v2 _ => ?_)
    exact gm_iret rfl d_X11_told_43 (Nat.le_of_ble_eq_true rfl) (Nat.le_of_ble_eq_true rfl) (fun h => h)
  ·
    refine gm_ite (P := a1 = 1) (fun h1_1 => ?_) (fun h1_1 => ?_)
    ·
      refine gm_swIn (v := 1) (off := 43) (tgt := 44) d_X11_told_1 (by rw [h1_1] <;> rfl) (by decide) (by decide) (by decide) (by decide) ?_
      refine gm_aload_n d_X11_told_44 rfl 0 rfl ?_
      refine gm_getR F_11_now gw_262 d_X11_told_45 (fun v3 _ => ?_)
      refine gm_getR F_8_afternoon gw_231 d_X11_told_48 (fun v4 _ => ?_)
      refine gm_getI F_0_wind gw_127 d_X11_told_51 (fun v5 _ => ?_)
      exact gm_iret rfl d_X11_told_54 (Nat.le_of_ble_eq_true rfl) (Nat.le_of_ble_eq_true rfl) (fun h => h)
    ·
      refine gm_ite (P := a1 = 2) (fun h1_2 => ?_) (fun h1_2 => ?_)
      ·
        refine gm_swIn (v := 2) (off := 54) (tgt := 55) d_X11_told_1 (by rw [h1_2] <;> rfl) (by decide) (by decide) (by decide) (by decide) ?_
        refine gm_aload_n d_X11_told_55 rfl 0 rfl ?_
        refine gm_getR F_11_now gw_262 d_X11_told_56 (fun v6 _ => ?_)
        refine gm_getR F_8_afternoon gw_231 d_X11_told_59 (fun v7 _ => ?_)
        refine gm_getI F_0_sweet gw_129 d_X11_told_62 (fun v8 _ => ?_)
        exact gm_iret rfl d_X11_told_65 (Nat.le_of_ble_eq_true rfl) (Nat.le_of_ble_eq_true rfl) (fun h => h)
      ·
        refine gm_ite (P := a1 = 3) (fun h1_3 => ?_) (fun h1_3 => ?_)
        ·
          refine gm_swIn (v := 3) (off := 65) (tgt := 66) d_X11_told_1 (by rw [h1_3] <;> rfl) (by decide) (by decide) (by decide) (by decide) ?_
          refine gm_aload_n d_X11_told_66 rfl 0 rfl ?_
          refine gm_iconst (v := 0) d_X11_told_67 (by decide) ?_
          refine gm_grd (fun g68 => ?_)
          refine gm_callV (k0 := 11) [.int (0 : Int32)] (c_X11_sumBehind a0 (0 : Int32) μ) g68 rfl B_X11_sumBehind gw_577 gs_14 rfl rfl rfl d_X11_told_68 (gm_kI (fun x10 m9 => ?_))
          exact gm_iret rfl d_X11_told_71 (Nat.le_of_ble_eq_true rfl) (Nat.le_of_ble_eq_true rfl) (fun h => h)
        ·
          refine gm_ite (P := a1 = 4) (fun h1_4 => ?_) (fun h1_4 => ?_)
          ·
            refine gm_swIn (v := 4) (off := 71) (tgt := 72) d_X11_told_1 (by rw [h1_4] <;> rfl) (by decide) (by decide) (by decide) (by decide) ?_
            refine gm_aload_n d_X11_told_72 rfl 0 rfl ?_
            refine gm_grd (fun g73 => ?_)
            refine gm_callV (k0 := 11) [] (c_X11_bubbleBits a0 μ) g73 rfl B_X11_bubbleBits gw_603 gs_17 rfl rfl rfl d_X11_told_73 (gm_kI (fun x12 m11 => ?_))
            exact gm_iret rfl d_X11_told_76 (Nat.le_of_ble_eq_true rfl) (Nat.le_of_ble_eq_true rfl) (fun h => h)
          ·
            refine gm_swOut (tgt := 77) d_X11_told_1 (by have g0 := lv_neT h1_0 (show (0 : Int32).toInt = 0 from rfl); have g1 := lv_neT h1_1 (show (1 : Int32).toInt = 1 from rfl); have g2 := lv_neT h1_2 (show (2 : Int32).toInt = 2 from rfl); have g3 := lv_neT h1_3 (show (3 : Int32).toInt = 3 from rfl); have g4 := lv_neT h1_4 (show (4 : Int32).toInt = 4 from rfl); omega) (by decide) ?_
            refine gm_iconst (v := -1) d_X11_told_77 (by decide) ?_
            exact gm_iret rfl d_X11_told_78 (Nat.le_of_ble_eq_true rfl) (Nat.le_of_ble_eq_true rfl) (fun h => h)
theorem d_X11_trace_0 : decode prog_1_method_34_code 0 = .ok (.aload_n 0, 1) := by decide +kernel
theorem d_X11_trace_1 : decode prog_1_method_34_code 1 = .ok (.getfield 22, 3) := by decide +kernel
theorem d_X11_trace_4 : decode prog_1_method_34_code 4 = .ok (.iload_n 1, 1) := by decide +kernel
theorem d_X11_trace_5 : decode prog_1_method_34_code 5 = .ok (.invokevirtual 275, 3) := by decide +kernel
theorem d_X11_trace_8 : decode prog_1_method_34_code 8 = .ok (.ifCond .eq 15, 3) := by decide +kernel
theorem d_X11_trace_11 : decode prog_1_method_34_code 11 = .ok (.aload_n 0, 1) := by decide +kernel
theorem d_X11_trace_12 : decode prog_1_method_34_code 12 = .ok (.getfield 22, 3) := by decide +kernel
theorem d_X11_trace_15 : decode prog_1_method_34_code 15 = .ok (.iload_n 1, 1) := by decide +kernel
theorem d_X11_trace_16 : decode prog_1_method_34_code 16 = .ok (.iconst 0, 1) := by decide +kernel
theorem d_X11_trace_17 : decode prog_1_method_34_code 17 = .ok (.invokevirtual 262, 3) := by decide +kernel
theorem d_X11_trace_20 : decode prog_1_method_34_code 20 = .ok (.goto 4, 3) := by decide +kernel
theorem d_X11_trace_23 : decode prog_1_method_34_code 23 = .ok (.iconst (-1), 1) := by decide +kernel
theorem d_X11_trace_24 : decode prog_1_method_34_code 24 = .ok (.ireturn, 1) := by decide +kernel
def f_X11_trace (a0 : Nat) (a1 : Int32) (μ : gm_M) : Option (Option Value × gm_M) := gm_gR μ [16] a0 4 (fun v1 => if gm_tag μ v1 = 12 then gm_bI (f_X7_isKept v1 a1 μ) (fun x3 m2 => if x3 = 0 then some (some (.int (-1 : Int32)), m2) else gm_gR m2 [16] a0 4 (fun v4 => if gm_tag m2 v4 = 12 then gm_bI (f_X7_cell v4 a1 (0 : Int32) m2) (fun x6 m5 => some (some (.int x6), m5)) else none)) else none)
set_option maxHeartbeats 4000000 in
theorem c_X11_trace (a0 : Nat) (a1 : Int32) (μ : gm_M) : gm_Call ({ cls := "GumBubble", name := "trace", desc := "(I)I" } : Jvm.MethodName) prog_1_method_34_code 2 (some .int) 2 0 0 [.ref a0, .int a1] μ (f_X11_trace a0 a1 μ) := by
  refine gm_start PN_11 (Nat.le_of_ble_eq_true rfl) (fun res μe => ?_)
  unfold f_X11_trace
  show gm_A "GumBubble" (gm_nm "trace") _ _ _ _ _ _ _ _ _ 0 [(0, .ref a0), (1, .int a1)] [] _ _
  refine gm_aload_n d_X11_trace_0 rfl 0 rfl ?_
  refine gm_getR F_11_trace gw_265 d_X11_trace_1 (fun v1 _ => ?_)
  refine gm_iload_n d_X11_trace_4 rfl 1 rfl ?_
  refine gm_grd (fun g5 => ?_)
  refine gm_callV (k0 := 7) [.int a1] (c_X7_isKept v1 a1 μ) g5 rfl B_X7_isKept gw_852 gw_740 rfl rfl rfl d_X11_trace_5 (gm_kI (fun x3 m2 => ?_))
  refine gm_if_eq (tgt := 23) d_X11_trace_8 (by decide) (fun h8 => ?_) (fun h8 => ?_)
  ·
    refine gm_iconst (v := -1) d_X11_trace_23 (by decide) ?_
    exact gm_iret rfl d_X11_trace_24 (Nat.le_of_ble_eq_true rfl) (Nat.le_of_ble_eq_true rfl) (fun h => h)
  ·
    refine gm_aload_n d_X11_trace_11 rfl 0 rfl ?_
    refine gm_getR F_11_trace gw_265 d_X11_trace_12 (fun v4 _ => ?_)
    refine gm_iload_n d_X11_trace_15 rfl 1 rfl ?_
    refine gm_iconst (v := 0) d_X11_trace_16 (by decide) ?_
    refine gm_grd (fun g17 => ?_)
    refine gm_callV (k0 := 7) [.int a1, .int (0 : Int32)] (c_X7_cell v4 a1 (0 : Int32) m2) g17 rfl B_X7_cell gw_734 gw_736 rfl rfl rfl d_X11_trace_17 (gm_kI (fun x6 m5 => ?_))
    refine gm_goto (tgt := 24) d_X11_trace_20 (by decide) ?_
    exact gm_iret rfl d_X11_trace_24 (Nat.le_of_ble_eq_true rfl) (Nat.le_of_ble_eq_true rfl) (fun h => h)
theorem d_X11_undo_0 : decode prog_1_method_37_code 0 = .ok (.aload_n 0, 1) := by decide +kernel
theorem d_X11_undo_1 : decode prog_1_method_37_code 1 = .ok (.getfield 285, 3) := by decide +kernel
theorem d_X11_undo_4 : decode prog_1_method_37_code 4 = .ok (.ifCond .ne 6, 3) := by decide +kernel
theorem d_X11_undo_7 : decode prog_1_method_37_code 7 = .ok (.bipush (-3), 2) := by decide +kernel
theorem d_X11_undo_9 : decode prog_1_method_37_code 9 = .ok (.ireturn, 1) := by decide +kernel
theorem d_X11_undo_10 : decode prog_1_method_37_code 10 = .ok (.aload_n 0, 1) := by decide +kernel
theorem d_X11_undo_11 : decode prog_1_method_37_code 11 = .ok (.getfield 60, 3) := by decide +kernel
theorem d_X11_undo_14 : decode prog_1_method_37_code 14 = .ok (.aload_n 0, 1) := by decide +kernel
theorem d_X11_undo_15 : decode prog_1_method_37_code 15 = .ok (.getfield 64, 3) := by decide +kernel
theorem d_X11_undo_18 : decode prog_1_method_37_code 18 = .ok (.invokevirtual 282, 3) := by decide +kernel
theorem d_X11_undo_21 : decode prog_1_method_37_code 21 = .ok (.aload_n 0, 1) := by decide +kernel
theorem d_X11_undo_22 : decode prog_1_method_37_code 22 = .ok (.getfield 60, 3) := by decide +kernel
theorem d_X11_undo_25 : decode prog_1_method_37_code 25 = .ok (.getfield 101, 3) := by decide +kernel
theorem d_X11_undo_28 : decode prog_1_method_37_code 28 = .ok (.ireturn, 1) := by decide +kernel
def f_X11_undo (a0 : Nat) (μ : gm_M) : Option (Option Value × gm_M) := gm_gI μ [16] a0 3 (fun v1 => if v1 ≠ 0 then gm_gR μ [16] a0 1 (fun v2 => gm_gR μ [16] a0 2 (fun v3 => if gm_tag μ v2 = 13 then gm_bV (f_X8_copy v2 v3 μ) (fun m4 => gm_gR m4 [16] a0 1 (fun v6 => gm_gI m4 [13] v6 1 (fun v7 => some (some (.int v7), m4)))) else none)) else some (some (.int (-3 : Int32)), μ))
set_option maxHeartbeats 4000000 in
theorem c_X11_undo (a0 : Nat) (μ : gm_M) : gm_Call ({ cls := "GumBubble", name := "undo", desc := "()I" } : Jvm.MethodName) prog_1_method_37_code 1 (some .int) 3 0 0 [.ref a0] μ (f_X11_undo a0 μ) := by
  refine gm_start PN_11 (Nat.le_of_ble_eq_true rfl) (fun res μe => ?_)
  unfold f_X11_undo
  show gm_A "GumBubble" (gm_nm "undo") _ _ _ _ _ _ _ _ _ 0 [(0, .ref a0)] [] _ _
  refine gm_aload_n d_X11_undo_0 rfl 0 rfl ?_
  refine gm_getI F_11_hasImage gw_264 d_X11_undo_1 (fun v1 _ => ?_)
  refine gm_if_ne (tgt := 10) d_X11_undo_4 (by decide) (fun h4 => ?_) (fun h4 => ?_)
  ·
    refine gm_aload_n d_X11_undo_10 rfl 0 rfl ?_
    refine gm_getR F_11_now gw_262 d_X11_undo_11 (fun v2 _ => ?_)
    refine gm_aload_n d_X11_undo_14 rfl 0 rfl ?_
    refine gm_getR F_11_kept gw_263 d_X11_undo_15 (fun v3 _ => ?_)
    refine gm_grd (fun g18 => ?_)
    refine gm_callV (k0 := 8) [.ref v3] (c_X8_copy v2 v3 μ) g18 rfl B_X8_copy gw_864 gw_866 rfl rfl rfl d_X11_undo_18 (gm_kV (fun m4 => ?_))
    refine gm_aload_n d_X11_undo_21 rfl 0 rfl ?_
    refine gm_getR F_11_now gw_262 d_X11_undo_22 (fun v6 _ => ?_)
    refine gm_getI F_8_size gw_221 d_X11_undo_25 (fun v7 _ => ?_)
    exact gm_iret rfl d_X11_undo_28 (Nat.le_of_ble_eq_true rfl) (Nat.le_of_ble_eq_true rfl) (fun h => h)
  ·
    refine gm_bipush (v := -3) d_X11_undo_7 (by decide) ?_
    exact gm_iret rfl d_X11_undo_9 (Nat.le_of_ble_eq_true rfl) (Nat.le_of_ble_eq_true rfl) (fun h => h)
theorem d_X11_when_0 : decode prog_1_method_12_code 0 = .ok (.aload_n 0, 1) := by decide +kernel
theorem d_X11_when_1 : decode prog_1_method_12_code 1 = .ok (.iload_n 1, 1) := by decide +kernel
theorem d_X11_when_2 : decode prog_1_method_12_code 2 = .ok (.invokevirtual 115, 3) := by decide +kernel
theorem d_X11_when_5 : decode prog_1_method_12_code 5 = .ok (.ifCond .ne 12, 3) := by decide +kernel
theorem d_X11_when_8 : decode prog_1_method_12_code 8 = .ok (.iload_n 2, 1) := by decide +kernel
theorem d_X11_when_9 : decode prog_1_method_12_code 9 = .ok (.iconst 0, 1) := by decide +kernel
theorem d_X11_when_10 : decode prog_1_method_12_code 10 = .ok (.iconst 1, 1) := by decide +kernel
theorem d_X11_when_11 : decode prog_1_method_12_code 11 = .ok (.invokestatic 76, 3) := by decide +kernel
theorem d_X11_when_14 : decode prog_1_method_12_code 14 = .ok (.ifCond .eq 5, 3) := by decide +kernel
theorem d_X11_when_17 : decode prog_1_method_12_code 17 = .ok (.iconst (-1), 1) := by decide +kernel
theorem d_X11_when_18 : decode prog_1_method_12_code 18 = .ok (.ireturn, 1) := by decide +kernel
theorem d_X11_when_19 : decode prog_1_method_12_code 19 = .ok (.aload_n 0, 1) := by decide +kernel
theorem d_X11_when_20 : decode prog_1_method_12_code 20 = .ok (.getfield 72, 3) := by decide +kernel
theorem d_X11_when_23 : decode prog_1_method_12_code 23 = .ok (.aload_n 0, 1) := by decide +kernel
theorem d_X11_when_24 : decode prog_1_method_12_code 24 = .ok (.getfield 60, 3) := by decide +kernel
theorem d_X11_when_27 : decode prog_1_method_12_code 27 = .ok (.getfield 104, 3) := by decide +kernel
theorem d_X11_when_30 : decode prog_1_method_12_code 30 = .ok (.iload_n 1, 1) := by decide +kernel
theorem d_X11_when_31 : decode prog_1_method_12_code 31 = .ok (.aaload, 1) := by decide +kernel
theorem d_X11_when_32 : decode prog_1_method_12_code 32 = .ok (.invokevirtual 186, 3) := by decide +kernel
theorem d_X11_when_35 : decode prog_1_method_12_code 35 = .ok (.aload_n 0, 1) := by decide +kernel
theorem d_X11_when_36 : decode prog_1_method_12_code 36 = .ok (.iload_n 2, 1) := by decide +kernel
theorem d_X11_when_37 : decode prog_1_method_12_code 37 = .ok (.invokevirtual 190, 3) := by decide +kernel
theorem d_X11_when_40 : decode prog_1_method_12_code 40 = .ok (.ireturn, 1) := by decide +kernel
def f_X11_when (a0 : Nat) (a1 : Int32) (a2 : Int32) (μ : gm_M) : Option (Option Value × gm_M) := if gm_tag μ a0 = 16 then gm_bI (f_X11_isNobody a0 a1 μ) (fun x2 m1 => if x2 ≠ 0 then some (some (.int (-1 : Int32)), m1) else gm_bI (f_X11_isOutside a2 (0 : Int32) (1 : Int32) m1) (fun x4 m3 => if x4 = 0 then gm_gR m3 [16] a0 5 (fun v5 => gm_gR m3 [16] a0 1 (fun v6 => gm_gR m3 [13] v6 2 (fun v7 => gm_aR m3 4 v7 a1 (fun v8 => if gm_tag m3 v5 = 7 then gm_bV (f_X2_copy v5 v8 m3) (fun m9 => if gm_tag m9 a0 = 16 then gm_bI (f_X11_trialWhen a0 a2 m9) (fun x12 m11 => some (some (.int x12), m11)) else none) else none)))) else some (some (.int (-1 : Int32)), m3))) else none
set_option maxHeartbeats 4000000 in
theorem c_X11_when (a0 : Nat) (a1 : Int32) (a2 : Int32) (μ : gm_M) : gm_Call ({ cls := "GumBubble", name := "when", desc := "(II)I" } : Jvm.MethodName) prog_1_method_12_code 3 (some .int) 5 0 0 [.ref a0, .int a1, .int a2] μ (f_X11_when a0 a1 a2 μ) := by
  refine gm_start PN_11 (Nat.le_of_ble_eq_true rfl) (fun res μe => ?_)
  unfold f_X11_when
  show gm_A "GumBubble" (gm_nm "when") _ _ _ _ _ _ _ _ _ 0 [(0, .ref a0), (1, .int a1), (2, .int a2)] [] _ _
  refine gm_aload_n d_X11_when_0 rfl 0 rfl ?_
  refine gm_iload_n d_X11_when_1 rfl 1 rfl ?_
  refine gm_grd (fun g2 => ?_)
  refine gm_callV (k0 := 11) [.int a1] (c_X11_isNobody a0 a1 μ) g2 rfl B_X11_isNobody gw_478 gs_11 rfl rfl rfl d_X11_when_2 (gm_kI (fun x2 m1 => ?_))
  refine gm_if_ne (tgt := 17) d_X11_when_5 (by decide) (fun h5 => ?_) (fun h5 => ?_)
  ·
    refine gm_iconst (v := -1) d_X11_when_17 (by decide) ?_
    exact gm_iret rfl d_X11_when_18 (Nat.le_of_ble_eq_true rfl) (Nat.le_of_ble_eq_true rfl) (fun h => h)
  ·
    refine gm_iload_n d_X11_when_8 rfl 2 rfl ?_
    refine gm_iconst (v := 0) d_X11_when_9 (by decide) ?_
    refine gm_iconst (v := 1) d_X11_when_10 (by decide) ?_
    refine gm_callS [.int a2, .int (0 : Int32), .int (1 : Int32)] (c_X11_isOutside a2 (0 : Int32) (1 : Int32) m1) B_X11_isOutside gw_296 rfl rfl rfl d_X11_when_11 (gm_kI (fun x4 m3 => ?_))
    refine gm_if_eq (tgt := 19) d_X11_when_14 (by decide) (fun h14 => ?_) (fun h14 => ?_)
    ·
      refine gm_aload_n d_X11_when_19 rfl 0 rfl ?_
      refine gm_getR F_11_trial gw_266 d_X11_when_20 (fun v5 _ => ?_)
      refine gm_aload_n d_X11_when_23 rfl 0 rfl ?_
      refine gm_getR F_11_now gw_262 d_X11_when_24 (fun v6 _ => ?_)
      refine gm_getR F_8_children gw_223 d_X11_when_27 (fun v7 _ => ?_)
      refine gm_iload_n d_X11_when_30 rfl 1 rfl ?_
      refine gm_aald (Or.inr rfl) d_X11_when_31 (fun v8 _ => ?_)
      refine gm_grd (fun g32 => ?_)
      refine gm_callV (k0 := 2) [.ref v8] (c_X2_copy v5 v8 m3) g32 rfl B_X2_copy gw_585 gw_587 rfl rfl rfl d_X11_when_32 (gm_kV (fun m9 => ?_))
      refine gm_aload_n d_X11_when_35 rfl 0 rfl ?_
      refine gm_iload_n d_X11_when_36 rfl 2 rfl ?_
      refine gm_grd (fun g37 => ?_)
      refine gm_callV (k0 := 11) [.int a2] (c_X11_trialWhen a0 a2 m9) g37 rfl B_X11_trialWhen gw_627 gs_18 rfl rfl rfl d_X11_when_37 (gm_kI (fun x12 m11 => ?_))
      exact gm_iret rfl d_X11_when_40 (Nat.le_of_ble_eq_true rfl) (Nat.le_of_ble_eq_true rfl) (fun h => h)
    ·
      refine gm_iconst (v := -1) d_X11_when_17 (by decide) ?_
      exact gm_iret rfl d_X11_when_18 (Nat.le_of_ble_eq_true rfl) (Nat.le_of_ble_eq_true rfl) (fun h => h)
theorem d_X11_who_0 : decode prog_1_method_25_code 0 = .ok (.iload_n 1, 1) := by decide +kernel
theorem d_X11_who_1 : decode prog_1_method_25_code 1 = .ok (.iconst 0, 1) := by decide +kernel
theorem d_X11_who_2 : decode prog_1_method_25_code 2 = .ok (.sipush 999, 3) := by decide +kernel
theorem d_X11_who_5 : decode prog_1_method_25_code 5 = .ok (.invokestatic 76, 3) := by decide +kernel
theorem d_X11_who_8 : decode prog_1_method_25_code 8 = .ok (.ifCond .ne 13, 3) := by decide +kernel
theorem d_X11_who_11 : decode prog_1_method_25_code 11 = .ok (.iload_n 2, 1) := by decide +kernel
theorem d_X11_who_12 : decode prog_1_method_25_code 12 = .ok (.iconst 0, 1) := by decide +kernel
theorem d_X11_who_13 : decode prog_1_method_25_code 13 = .ok (.bipush 40, 2) := by decide +kernel
theorem d_X11_who_15 : decode prog_1_method_25_code 15 = .ok (.invokestatic 76, 3) := by decide +kernel
theorem d_X11_who_18 : decode prog_1_method_25_code 18 = .ok (.ifCond .eq 6, 3) := by decide +kernel
theorem d_X11_who_21 : decode prog_1_method_25_code 21 = .ok (.bipush (-2), 2) := by decide +kernel
theorem d_X11_who_23 : decode prog_1_method_25_code 23 = .ok (.ireturn, 1) := by decide +kernel
theorem d_X11_who_24 : decode prog_1_method_25_code 24 = .ok (.iconst 0, 1) := by decide +kernel
theorem d_X11_who_25 : decode prog_1_method_25_code 25 = .ok (.istore_n 3, 1) := by decide +kernel
theorem d_X11_who_26 : decode prog_1_method_25_code 26 = .ok (.iconst 0, 1) := by decide +kernel
theorem d_X11_who_27 : decode prog_1_method_25_code 27 = .ok (.istore 4, 2) := by decide +kernel
theorem d_X11_who_29 : decode prog_1_method_25_code 29 = .ok (.iload 4, 2) := by decide +kernel
theorem d_X11_who_31 : decode prog_1_method_25_code 31 = .ok (.aload_n 0, 1) := by decide +kernel
theorem d_X11_who_32 : decode prog_1_method_25_code 32 = .ok (.getfield 60, 3) := by decide +kernel
theorem d_X11_who_35 : decode prog_1_method_25_code 35 = .ok (.getfield 101, 3) := by decide +kernel
theorem d_X11_who_38 : decode prog_1_method_25_code 38 = .ok (.if_icmp .ge 27, 3) := by decide +kernel
theorem d_X11_who_41 : decode prog_1_method_25_code 41 = .ok (.aload_n 0, 1) := by decide +kernel
theorem d_X11_who_42 : decode prog_1_method_25_code 42 = .ok (.iload 4, 2) := by decide +kernel
theorem d_X11_who_44 : decode prog_1_method_25_code 44 = .ok (.iload_n 2, 1) := by decide +kernel
theorem d_X11_who_45 : decode prog_1_method_25_code 45 = .ok (.invokevirtual 182, 3) := by decide +kernel
theorem d_X11_who_48 : decode prog_1_method_25_code 48 = .ok (.iload_n 1, 1) := by decide +kernel
theorem d_X11_who_49 : decode prog_1_method_25_code 49 = .ok (.if_icmp .ne 10, 3) := by decide +kernel
theorem d_X11_who_52 : decode prog_1_method_25_code 52 = .ok (.iload_n 3, 1) := by decide +kernel
theorem d_X11_who_53 : decode prog_1_method_25_code 53 = .ok (.iconst 1, 1) := by decide +kernel
theorem d_X11_who_54 : decode prog_1_method_25_code 54 = .ok (.iload 4, 2) := by decide +kernel
theorem d_X11_who_56 : decode prog_1_method_25_code 56 = .ok (.ishl, 1) := by decide +kernel
theorem d_X11_who_57 : decode prog_1_method_25_code 57 = .ok (.ior, 1) := by decide +kernel
theorem d_X11_who_58 : decode prog_1_method_25_code 58 = .ok (.istore_n 3, 1) := by decide +kernel
theorem d_X11_who_59 : decode prog_1_method_25_code 59 = .ok (.iinc 4 1, 3) := by decide +kernel
theorem d_X11_who_62 : decode prog_1_method_25_code 62 = .ok (.goto (-33), 3) := by decide +kernel
theorem d_X11_who_65 : decode prog_1_method_25_code 65 = .ok (.iload_n 3, 1) := by decide +kernel
theorem d_X11_who_66 : decode prog_1_method_25_code 66 = .ok (.ireturn, 1) := by decide +kernel
def f_X11_who (a0 : Nat) (a1 : Int32) (a2 : Int32) (μ : gm_M) : Option (Option Value × gm_M) := gm_bI (f_X11_isOutside a1 (0 : Int32) (999 : Int32) μ) (fun x2 m1 => if x2 ≠ 0 then some (some (.int (-2 : Int32)), m1) else gm_bI (f_X11_isOutside a2 (0 : Int32) (40 : Int32) m1) (fun x4 m3 => if x4 = 0 then gm_loop (fun (s5 : Int32 × Int32 × gm_M) => gm_gR s5.2.2 [16] a0 1 (fun v6 => gm_gI s5.2.2 [13] v6 1 (fun v7 => if v7 ≤ s5.2.1 then some (Sum.inr (some (.int s5.1), s5.2.2)) else if gm_tag s5.2.2 a0 = 16 then gm_bI (f_X11_holdsBehind a0 s5.2.1 a2 s5.2.2) (fun x9 m8 => gm_j (fun (s10 : Int32) => some (Sum.inl (s10, (s5.2.1 + (1 : Int32)), m8))) (fun j11 => if x9 ≠ a1 then j11 s5.1 else j11 (s5.1 ||| ((1 : Int32) <<< (s5.2.1 &&& 31))))) else none))) 5000 ((0 : Int32), (0 : Int32), m3) else some (some (.int (-2 : Int32)), m3)))
set_option maxHeartbeats 4000000 in
theorem c_X11_who (a0 : Nat) (a1 : Int32) (a2 : Int32) (μ : gm_M) : gm_Call ({ cls := "GumBubble", name := "who", desc := "(II)I" } : Jvm.MethodName) prog_1_method_25_code 5 (some .int) 6 0 0 [.ref a0, .int a1, .int a2] μ (f_X11_who a0 a1 a2 μ) := by
  refine gm_start PN_11 (Nat.le_of_ble_eq_true rfl) (fun res μe => ?_)
  unfold f_X11_who
  show gm_A "GumBubble" (gm_nm "who") _ _ _ _ _ _ _ _ _ 0 [(0, .ref a0), (1, .int a1), (2, .int a2)] [] _ _
  refine gm_iload_n d_X11_who_0 rfl 1 rfl ?_
  refine gm_iconst (v := 0) d_X11_who_1 (by decide) ?_
  refine gm_sipush (v := 999) d_X11_who_2 (by decide) ?_
  refine gm_callS [.int a1, .int (0 : Int32), .int (999 : Int32)] (c_X11_isOutside a1 (0 : Int32) (999 : Int32) μ) B_X11_isOutside gw_296 rfl rfl rfl d_X11_who_5 (gm_kI (fun x2 m1 => ?_))
  refine gm_if_ne (tgt := 21) d_X11_who_8 (by decide) (fun h8 => ?_) (fun h8 => ?_)
  ·
    refine gm_bipush (v := -2) d_X11_who_21 (by decide) ?_
    exact gm_iret rfl d_X11_who_23 (Nat.le_of_ble_eq_true rfl) (Nat.le_of_ble_eq_true rfl) (fun h => h)
  ·
    refine gm_iload_n d_X11_who_11 rfl 2 rfl ?_
    refine gm_iconst (v := 0) d_X11_who_12 (by decide) ?_
    refine gm_bipush (v := 40) d_X11_who_13 (by decide) ?_
    refine gm_callS [.int a2, .int (0 : Int32), .int (40 : Int32)] (c_X11_isOutside a2 (0 : Int32) (40 : Int32) m1) B_X11_isOutside gw_296 rfl rfl rfl d_X11_who_15 (gm_kI (fun x4 m3 => ?_))
    refine gm_if_eq (tgt := 24) d_X11_who_18 (by decide) (fun h18 => ?_) (fun h18 => ?_)
    ·
      refine gm_iconst (v := 0) d_X11_who_24 (by decide) ?_
      refine gm_istore_n (L' := [(3, .int (0 : Int32)), (0, .ref a0), (1, .int a1), (2, .int a2)]) d_X11_who_25 rfl (Nat.le_of_ble_eq_true rfl) rfl ?_
      refine gm_iconst (v := 0) d_X11_who_26 (by decide) ?_
      refine gm_istore (L' := [(4, .int (0 : Int32)), (3, .int (0 : Int32)), (0, .ref a0), (1, .int a1), (2, .int a2)]) d_X11_who_27 (Nat.le_of_ble_eq_true rfl) rfl ?_
      refine gm_sub (L' := [(0, .ref a0), (1, .int a1), (2, .int a2), (3, .int (0 : Int32)), (4, .int (0 : Int32))]) [2, 3, 4, 1, 0] rfl ?_
      refine gm_lp (S := Int32 × Int32 × gm_M) (fun _ => 0) (fun _ => 0) (fun s5 => s5.2.2) (fun s5 => [(0, .ref a0), (1, .int a1), (2, .int a2), (3, .int s5.1), (4, .int s5.2.1)]) (fun _ => []) (fun s5 => ?_) 5000 ((0 : Int32), (0 : Int32), m3)
      refine gm_iload d_X11_who_29 4 rfl ?_
      refine gm_aload_n d_X11_who_31 rfl 0 rfl ?_
      refine gm_getR F_11_now gw_262 d_X11_who_32 (fun v6 _ => ?_)
      refine gm_getI F_8_size gw_221 d_X11_who_35 (fun v7 _ => ?_)
      refine gm_icmp_ge (tgt := 65) d_X11_who_38 (by decide) (fun h38 => ?_) (fun h38 => ?_)
      ·
        refine gm_iload_n d_X11_who_65 rfl 3 rfl ?_
        exact gm_iret rfl d_X11_who_66 (Nat.le_of_ble_eq_true rfl) (Nat.le_of_ble_eq_true rfl) (fun h => h)
      ·
        refine gm_aload_n d_X11_who_41 rfl 0 rfl ?_
        refine gm_iload d_X11_who_42 4 rfl ?_
        refine gm_iload_n d_X11_who_44 rfl 2 rfl ?_
        refine gm_grd (fun g45 => ?_)
        refine gm_callV (k0 := 11) [.int s5.2.1, .int a2] (c_X11_holdsBehind a0 s5.2.1 a2 s5.2.2) g45 rfl B_X11_holdsBehind gw_581 gs_15 rfl rfl rfl d_X11_who_45 (gm_kI (fun x9 m8 => ?_))
        refine gm_iload_n d_X11_who_48 rfl 1 rfl ?_
        refine gm_join (S := Int32) (pj := 59) (kj := 0) (nj := 0) (fun s10 => m8) (fun s10 => [(0, .ref a0), (1, .int a1), (2, .int a2), (3, .int s10), (4, .int s5.2.1)]) (fun s10 => []) (fun s10 => ?_) (fun j11 hj11 => ?_)
        ·
          refine gm_iinc (v := s5.2.1 + (1 : Int32)) (L' := [(4, .int (s5.2.1 + (1 : Int32))), (0, .ref a0), (1, .int a1), (2, .int a2), (3, .int s10)]) d_X11_who_59 4 rfl rfl (Nat.le_of_ble_eq_true rfl) rfl ?_
          refine gm_goto (tgt := 29) d_X11_who_62 (by decide) ?_
          refine gm_sub (L' := [(0, .ref a0), (1, .int a1), (2, .int a2), (3, .int s10), (4, .int (s5.2.1 + (1 : Int32)))]) [1, 2, 3, 4, 0] rfl ?_
          exact gm_back (fun h => h)
        ·
          refine gm_icmp_ne (tgt := 59) d_X11_who_49 (by decide) (fun h49 => ?_) (fun h49 => ?_)
          ·
            exact hj11 s5.1
          ·
            refine gm_iload_n d_X11_who_52 rfl 3 rfl ?_
            refine gm_iconst (v := 1) d_X11_who_53 (by decide) ?_
            refine gm_iload d_X11_who_54 4 rfl ?_
            refine gm_ishl d_X11_who_56 ?_
            refine gm_ior d_X11_who_57 ?_
            refine gm_istore_n (L' := [(3, .int (s5.1 ||| ((1 : Int32) <<< (s5.2.1 &&& 31)))), (0, .ref a0), (1, .int a1), (2, .int a2), (4, .int s5.2.1)]) d_X11_who_58 rfl (Nat.le_of_ble_eq_true rfl) rfl ?_
            refine gm_sub (L' := [(0, .ref a0), (1, .int a1), (2, .int a2), (3, .int (s5.1 ||| ((1 : Int32) <<< (s5.2.1 &&& 31)))), (4, .int s5.2.1)]) [1, 2, 3, 0, 4] rfl ?_
            exact hj11 (s5.1 ||| ((1 : Int32) <<< (s5.2.1 &&& 31)))
    ·
      refine gm_bipush (v := -2) d_X11_who_21 (by decide) ?_
      exact gm_iret rfl d_X11_who_23 (Nat.le_of_ble_eq_true rfl) (Nat.le_of_ble_eq_true rfl) (fun h => h)
theorem d_X12_above_0 : decode prog_14_method_5_code 0 = .ok (.iload_n 0, 1) := by decide +kernel
theorem d_X12_above_1 : decode prog_14_method_5_code 1 = .ok (.ifCond .ge 7, 3) := by decide +kernel
theorem d_X12_above_4 : decode prog_14_method_5_code 4 = .ok (.iconst 0, 1) := by decide +kernel
theorem d_X12_above_5 : decode prog_14_method_5_code 5 = .ok (.goto 4, 3) := by decide +kernel
theorem d_X12_above_8 : decode prog_14_method_5_code 8 = .ok (.iload_n 0, 1) := by decide +kernel
theorem d_X12_above_9 : decode prog_14_method_5_code 9 = .ok (.ireturn, 1) := by decide +kernel
def f_X12_above (a0 : Int32) (μ : gm_M) : Option (Option Value × gm_M) := if 0 ≤ a0 then some (some (.int a0), μ) else some (some (.int (0 : Int32)), μ)
set_option maxHeartbeats 4000000 in
theorem c_X12_above (a0 : Int32) (μ : gm_M) : gm_Call ({ cls := "GumBubbleModel", name := "above", desc := "(I)I" } : Jvm.MethodName) prog_14_method_5_code 1 (some .int) 0 0 0 [.int a0] μ (f_X12_above a0 μ) := by
  refine gm_start PN_12 (Nat.le_of_ble_eq_true rfl) (fun res μe => ?_)
  unfold f_X12_above
  show gm_A "GumBubbleModel" (gm_nm "above") _ _ _ _ _ _ _ _ _ 0 [(0, .int a0)] [] _ _
  refine gm_iload_n d_X12_above_0 rfl 0 rfl ?_
  refine gm_if_ge (tgt := 8) d_X12_above_1 (by decide) (fun h1 => ?_) (fun h1 => ?_)
  ·
    refine gm_iload_n d_X12_above_8 rfl 0 rfl ?_
    exact gm_iret rfl d_X12_above_9 (Nat.le_of_ble_eq_true rfl) (Nat.le_of_ble_eq_true rfl) (fun h => h)
  ·
    refine gm_iconst (v := 0) d_X12_above_4 (by decide) ?_
    refine gm_goto (tgt := 9) d_X12_above_5 (by decide) ?_
    exact gm_iret rfl d_X12_above_9 (Nat.le_of_ble_eq_true rfl) (Nat.le_of_ble_eq_true rfl) (fun h => h)
theorem d_X12_isUnder_0 : decode prog_14_method_80_code 0 = .ok (.iload_n 1, 1) := by decide +kernel
theorem d_X12_isUnder_1 : decode prog_14_method_80_code 1 = .ok (.ifCond .eq 24, 3) := by decide +kernel
theorem d_X12_isUnder_4 : decode prog_14_method_80_code 4 = .ok (.iload_n 1, 1) := by decide +kernel
theorem d_X12_isUnder_5 : decode prog_14_method_80_code 5 = .ok (.iload_n 0, 1) := by decide +kernel
theorem d_X12_isUnder_6 : decode prog_14_method_80_code 6 = .ok (.if_icmp .eq 19, 3) := by decide +kernel
theorem d_X12_isUnder_9 : decode prog_14_method_80_code 9 = .ok (.iload_n 1, 1) := by decide +kernel
theorem d_X12_isUnder_10 : decode prog_14_method_80_code 10 = .ok (.ifCond .le 19, 3) := by decide +kernel
theorem d_X12_isUnder_13 : decode prog_14_method_80_code 13 = .ok (.iload_n 1, 1) := by decide +kernel
theorem d_X12_isUnder_14 : decode prog_14_method_80_code 14 = .ok (.iconst 4, 1) := by decide +kernel
theorem d_X12_isUnder_15 : decode prog_14_method_80_code 15 = .ok (.if_icmp .ge 14, 3) := by decide +kernel
theorem d_X12_isUnder_18 : decode prog_14_method_80_code 18 = .ok (.iload_n 0, 1) := by decide +kernel
theorem d_X12_isUnder_19 : decode prog_14_method_80_code 19 = .ok (.iload_n 1, 1) := by decide +kernel
theorem d_X12_isUnder_20 : decode prog_14_method_80_code 20 = .ok (.iconst 3, 1) := by decide +kernel
theorem d_X12_isUnder_21 : decode prog_14_method_80_code 21 = .ok (.iadd, 1) := by decide +kernel
theorem d_X12_isUnder_22 : decode prog_14_method_80_code 22 = .ok (.if_icmp .ne 7, 3) := by decide +kernel
theorem d_X12_isUnder_25 : decode prog_14_method_80_code 25 = .ok (.iconst 1, 1) := by decide +kernel
theorem d_X12_isUnder_26 : decode prog_14_method_80_code 26 = .ok (.goto 4, 3) := by decide +kernel
theorem d_X12_isUnder_29 : decode prog_14_method_80_code 29 = .ok (.iconst 0, 1) := by decide +kernel
theorem d_X12_isUnder_30 : decode prog_14_method_80_code 30 = .ok (.ireturn, 1) := by decide +kernel
def f_X12_isUnder (a0 : Int32) (a1 : Int32) (μ : gm_M) : Option (Option Value × gm_M) := gm_j (fun (s1 : Unit) => if (1 : Int32) = 0 ∨ (1 : Int32) = 1 then some (some (.int (1 : Int32)), μ) else none) (fun j2 => if a1 = 0 then j2 () else if a1 = a0 then j2 () else if a1 ≤ 0 then if (0 : Int32) = 0 ∨ (0 : Int32) = 1 then some (some (.int (0 : Int32)), μ) else none else if (4 : Int32) ≤ a1 then if (0 : Int32) = 0 ∨ (0 : Int32) = 1 then some (some (.int (0 : Int32)), μ) else none else if a0 ≠ (a1 + (3 : Int32)) then if (0 : Int32) = 0 ∨ (0 : Int32) = 1 then some (some (.int (0 : Int32)), μ) else none else j2 ())
set_option maxHeartbeats 4000000 in
theorem c_X12_isUnder (a0 : Int32) (a1 : Int32) (μ : gm_M) : gm_Call ({ cls := "GumBubbleModel", name := "isUnder", desc := "(II)Z" } : Jvm.MethodName) prog_14_method_80_code 2 (some .boolean) 0 0 0 [.int a0, .int a1] μ (f_X12_isUnder a0 a1 μ) := by
  refine gm_start PN_12 (Nat.le_of_ble_eq_true rfl) (fun res μe => ?_)
  unfold f_X12_isUnder
  show gm_A "GumBubbleModel" (gm_nm "isUnder") _ _ _ _ _ _ _ _ _ 0 [(0, .int a0), (1, .int a1)] [] _ _
  refine gm_iload_n d_X12_isUnder_0 rfl 1 rfl ?_
  refine gm_join (S := Unit) (pj := 25) (kj := 0) (nj := 0) (fun s1 => μ) (fun s1 => [(0, .int a0), (1, .int a1)]) (fun s1 => []) (fun s1 => ?_) (fun j2 hj2 => ?_)
  ·
    refine gm_iconst (v := 1) d_X12_isUnder_25 (by decide) ?_
    refine gm_goto (tgt := 30) d_X12_isUnder_26 (by decide) ?_
    exact gm_zret rfl d_X12_isUnder_30 (Nat.le_of_ble_eq_true rfl) (Nat.le_of_ble_eq_true rfl) (fun h => h)
  ·
    refine gm_if_eq (tgt := 25) d_X12_isUnder_1 (by decide) (fun h1 => ?_) (fun h1 => ?_)
    ·
      exact hj2 ()
    ·
      refine gm_iload_n d_X12_isUnder_4 rfl 1 rfl ?_
      refine gm_iload_n d_X12_isUnder_5 rfl 0 rfl ?_
      refine gm_icmp_eq (tgt := 25) d_X12_isUnder_6 (by decide) (fun h6 => ?_) (fun h6 => ?_)
      ·
        exact hj2 ()
      ·
        refine gm_iload_n d_X12_isUnder_9 rfl 1 rfl ?_
        refine gm_if_le (tgt := 29) d_X12_isUnder_10 (by decide) (fun h10 => ?_) (fun h10 => ?_)
        ·
          refine gm_iconst (v := 0) d_X12_isUnder_29 (by decide) ?_
          exact gm_zret rfl d_X12_isUnder_30 (Nat.le_of_ble_eq_true rfl) (Nat.le_of_ble_eq_true rfl) (fun h => h)
        ·
          refine gm_iload_n d_X12_isUnder_13 rfl 1 rfl ?_
          refine gm_iconst (v := 4) d_X12_isUnder_14 (by decide) ?_
          refine gm_icmp_ge (tgt := 29) d_X12_isUnder_15 (by decide) (fun h15 => ?_) (fun h15 => ?_)
          ·
            refine gm_iconst (v := 0) d_X12_isUnder_29 (by decide) ?_
            exact gm_zret rfl d_X12_isUnder_30 (Nat.le_of_ble_eq_true rfl) (Nat.le_of_ble_eq_true rfl) (fun h => h)
          ·
            refine gm_iload_n d_X12_isUnder_18 rfl 0 rfl ?_
            refine gm_iload_n d_X12_isUnder_19 rfl 1 rfl ?_
            refine gm_iconst (v := 3) d_X12_isUnder_20 (by decide) ?_
            refine gm_iadd d_X12_isUnder_21 ?_
            refine gm_icmp_ne (tgt := 29) d_X12_isUnder_22 (by decide) (fun h22 => ?_) (fun h22 => ?_)
            ·
              refine gm_iconst (v := 0) d_X12_isUnder_29 (by decide) ?_
              exact gm_zret rfl d_X12_isUnder_30 (Nat.le_of_ble_eq_true rfl) (Nat.le_of_ble_eq_true rfl) (fun h => h)
            ·
              exact hj2 ()
theorem d_X12_ranBody_0 : decode prog_14_method_79_code 0 = .ok (.aload_n 0, 1) := by decide +kernel
theorem d_X12_ranBody_1 : decode prog_14_method_79_code 1 = .ok (.getfield 247, 3) := by decide +kernel
theorem d_X12_ranBody_4 : decode prog_14_method_79_code 4 = .ok (.bipush 20, 2) := by decide +kernel
theorem d_X12_ranBody_6 : decode prog_14_method_79_code 6 = .ok (.if_icmp .ge 13, 3) := by decide +kernel
theorem d_X12_ranBody_9 : decode prog_14_method_79_code 9 = .ok (.aload_n 0, 1) := by decide +kernel
theorem d_X12_ranBody_10 : decode prog_14_method_79_code 10 = .ok (.getfield 37, 3) := by decide +kernel
theorem d_X12_ranBody_13 : decode prog_14_method_79_code 13 = .ok (.aload_n 0, 1) := by decide +kernel
theorem d_X12_ranBody_14 : decode prog_14_method_79_code 14 = .ok (.getfield 247, 3) := by decide +kernel
theorem d_X12_ranBody_17 : decode prog_14_method_79_code 17 = .ok (.iload_n 1, 1) := by decide +kernel
theorem d_X12_ranBody_18 : decode prog_14_method_79_code 18 = .ok (.iastore, 1) := by decide +kernel
theorem d_X12_ranBody_19 : decode prog_14_method_79_code 19 = .ok (.aload_n 0, 1) := by decide +kernel
theorem d_X12_ranBody_20 : decode prog_14_method_79_code 20 = .ok (.dup, 1) := by decide +kernel
theorem d_X12_ranBody_21 : decode prog_14_method_79_code 21 = .ok (.getfield 247, 3) := by decide +kernel
theorem d_X12_ranBody_24 : decode prog_14_method_79_code 24 = .ok (.iconst 1, 1) := by decide +kernel
theorem d_X12_ranBody_25 : decode prog_14_method_79_code 25 = .ok (.iadd, 1) := by decide +kernel
theorem d_X12_ranBody_26 : decode prog_14_method_79_code 26 = .ok (.putfield 247, 3) := by decide +kernel
theorem d_X12_ranBody_29 : decode prog_14_method_79_code 29 = .ok (.return_, 1) := by decide +kernel
def f_X12_ranBody (a0 : Nat) (a1 : Int32) (μ : gm_M) : Option (Option Value × gm_M) := gm_gI μ [17] a0 19 (fun v1 => gm_j (fun (s2 : gm_M) => gm_gI s2 [17] a0 19 (fun v4 => gm_pI s2 [17] a0 19 (v4 + (1 : Int32)) (fun m5 => some (none, m5)))) (fun j3 => if (20 : Int32) ≤ v1 then j3 μ else gm_gR μ [17] a0 18 (fun v6 => gm_gI μ [17] a0 19 (fun v7 => gm_sI μ v6 v7 a1 (fun m8 => j3 m8)))))
set_option maxHeartbeats 4000000 in
theorem c_X12_ranBody (a0 : Nat) (a1 : Int32) (μ : gm_M) : gm_Call ({ cls := "GumBubbleModel", name := "ranBody", desc := "(I)V" } : Jvm.MethodName) prog_14_method_79_code 2 none 0 0 0 [.ref a0, .int a1] μ (f_X12_ranBody a0 a1 μ) := by
  refine gm_start PN_12 (Nat.le_of_ble_eq_true rfl) (fun res μe => ?_)
  unfold f_X12_ranBody
  show gm_A "GumBubbleModel" (gm_nm "ranBody") _ _ _ _ _ _ _ _ _ 0 [(0, .ref a0), (1, .int a1)] [] _ _
  refine gm_aload_n d_X12_ranBody_0 rfl 0 rfl ?_
  refine gm_getI F_12_ran gw_908 d_X12_ranBody_1 (fun v1 _ => ?_)
  refine gm_bipush (v := 20) d_X12_ranBody_4 (by decide) ?_
  refine gm_join (S := gm_M) (pj := 19) (kj := 0) (nj := 0) (fun s2 => s2) (fun s2 => [(0, .ref a0), (1, .int a1)]) (fun s2 => []) (fun s2 => ?_) (fun j3 hj3 => ?_)
  ·
    refine gm_aload_n d_X12_ranBody_19 rfl 0 rfl ?_
    refine gm_dup d_X12_ranBody_20 rfl ?_
    refine gm_getI F_12_ran gw_908 d_X12_ranBody_21 (fun v4 _ => ?_)
    refine gm_iconst (v := 1) d_X12_ranBody_24 (by decide) ?_
    refine gm_iadd d_X12_ranBody_25 ?_
    refine gm_putI F_12_ran (Or.inl rfl) gw_908 d_X12_ranBody_26 (fun m5 _ => ?_)
    exact gm_vret rfl d_X12_ranBody_29 (Nat.le_of_ble_eq_true rfl) (Nat.le_of_ble_eq_true rfl) (fun h => h)
  ·
    refine gm_icmp_ge (tgt := 19) d_X12_ranBody_6 (by decide) (fun h6 => ?_) (fun h6 => ?_)
    ·
      exact hj3 μ
    ·
      refine gm_aload_n d_X12_ranBody_9 rfl 0 rfl ?_
      refine gm_getR F_12_bodies gw_907 d_X12_ranBody_10 (fun v6 _ => ?_)
      refine gm_aload_n d_X12_ranBody_13 rfl 0 rfl ?_
      refine gm_getI F_12_ran gw_908 d_X12_ranBody_14 (fun v7 _ => ?_)
      refine gm_iload_n d_X12_ranBody_17 rfl 1 rfl ?_
      refine gm_iast d_X12_ranBody_18 (fun m8 _ => ?_)
      exact hj3 m8
theorem d_X12_plainChews_0 : decode prog_14_method_81_code 0 = .ok (.aload_n 0, 1) := by decide +kernel
theorem d_X12_plainChews_1 : decode prog_14_method_81_code 1 = .ok (.iconst 1, 1) := by decide +kernel
theorem d_X12_plainChews_2 : decode prog_14_method_81_code 2 = .ok (.invokevirtual 250, 3) := by decide +kernel
theorem d_X12_plainChews_5 : decode prog_14_method_81_code 5 = .ok (.iload_n 1, 1) := by decide +kernel
theorem d_X12_plainChews_6 : decode prog_14_method_81_code 6 = .ok (.aload_n 0, 1) := by decide +kernel
theorem d_X12_plainChews_7 : decode prog_14_method_81_code 7 = .ok (.getfield 253, 3) := by decide +kernel
theorem d_X12_plainChews_10 : decode prog_14_method_81_code 10 = .ok (.iadd, 1) := by decide +kernel
theorem d_X12_plainChews_11 : decode prog_14_method_81_code 11 = .ok (.ireturn, 1) := by decide +kernel
def f_X12_plainChews (a0 : Nat) (a1 : Int32) (μ : gm_M) : Option (Option Value × gm_M) := if gm_tag μ a0 = 17 then gm_bV (f_X12_ranBody a0 (1 : Int32) μ) (fun m1 => gm_gI m1 [17] a0 21 (fun v3 => some (some (.int (a1 + v3)), m1))) else none
set_option maxHeartbeats 4000000 in
theorem c_X12_plainChews (a0 : Nat) (a1 : Int32) (μ : gm_M) : gm_Call ({ cls := "GumBubbleModel", name := "plainChews", desc := "(I)I" } : Jvm.MethodName) prog_14_method_81_code 2 (some .int) 1 0 0 [.ref a0, .int a1] μ (f_X12_plainChews a0 a1 μ) := by
  refine gm_start PN_12 (Nat.le_of_ble_eq_true rfl) (fun res μe => ?_)
  unfold f_X12_plainChews
  show gm_A "GumBubbleModel" (gm_nm "plainChews") _ _ _ _ _ _ _ _ _ 0 [(0, .ref a0), (1, .int a1)] [] _ _
  refine gm_aload_n d_X12_plainChews_0 rfl 0 rfl ?_
  refine gm_iconst (v := 1) d_X12_plainChews_1 (by decide) ?_
  refine gm_grd (fun g2 => ?_)
  refine gm_callV (k0 := 12) [.int (1 : Int32)] (c_X12_ranBody a0 (1 : Int32) μ) g2 rfl B_X12_ranBody gw_1281 gs_65 rfl rfl rfl d_X12_plainChews_2 (gm_kV (fun m1 => ?_))
  refine gm_iload_n d_X12_plainChews_5 rfl 1 rfl ?_
  refine gm_aload_n d_X12_plainChews_6 rfl 0 rfl ?_
  refine gm_getI F_12_number gw_910 d_X12_plainChews_7 (fun v3 _ => ?_)
  refine gm_iadd d_X12_plainChews_10 ?_
  exact gm_iret rfl d_X12_plainChews_11 (Nat.le_of_ble_eq_true rfl) (Nat.le_of_ble_eq_true rfl) (fun h => h)
theorem d_X12_chewsActs_0 : decode prog_14_method_82_code 0 = .ok (.aload_n 0, 1) := by decide +kernel
theorem d_X12_chewsActs_1 : decode prog_14_method_82_code 1 = .ok (.getfield 256, 3) := by decide +kernel
theorem d_X12_chewsActs_4 : decode prog_14_method_82_code 4 = .ok (.iconst 1, 1) := by decide +kernel
theorem d_X12_chewsActs_5 : decode prog_14_method_82_code 5 = .ok (.invokestatic 259, 3) := by decide +kernel
theorem d_X12_chewsActs_8 : decode prog_14_method_82_code 8 = .ok (.ifCond .eq 17, 3) := by decide +kernel
theorem d_X12_chewsActs_11 : decode prog_14_method_82_code 11 = .ok (.aload_n 0, 1) := by decide +kernel
theorem d_X12_chewsActs_12 : decode prog_14_method_82_code 12 = .ok (.bipush 11, 2) := by decide +kernel
theorem d_X12_chewsActs_14 : decode prog_14_method_82_code 14 = .ok (.invokevirtual 250, 3) := by decide +kernel
theorem d_X12_chewsActs_17 : decode prog_14_method_82_code 17 = .ok (.aload_n 0, 1) := by decide +kernel
theorem d_X12_chewsActs_18 : decode prog_14_method_82_code 18 = .ok (.iload_n 1, 1) := by decide +kernel
theorem d_X12_chewsActs_19 : decode prog_14_method_82_code 19 = .ok (.iconst 3, 1) := by decide +kernel
theorem d_X12_chewsActs_20 : decode prog_14_method_82_code 20 = .ok (.imul, 1) := by decide +kernel
theorem d_X12_chewsActs_21 : decode prog_14_method_82_code 21 = .ok (.invokevirtual 262, 3) := by decide +kernel
theorem d_X12_chewsActs_24 : decode prog_14_method_82_code 24 = .ok (.ireturn, 1) := by decide +kernel
theorem d_X12_chewsActs_25 : decode prog_14_method_82_code 25 = .ok (.aload_n 0, 1) := by decide +kernel
theorem d_X12_chewsActs_26 : decode prog_14_method_82_code 26 = .ok (.getfield 256, 3) := by decide +kernel
theorem d_X12_chewsActs_29 : decode prog_14_method_82_code 29 = .ok (.iconst 5, 1) := by decide +kernel
theorem d_X12_chewsActs_30 : decode prog_14_method_82_code 30 = .ok (.if_icmp .ne 20, 3) := by decide +kernel
theorem d_X12_chewsActs_33 : decode prog_14_method_82_code 33 = .ok (.aload_n 0, 1) := by decide +kernel
theorem d_X12_chewsActs_34 : decode prog_14_method_82_code 34 = .ok (.bipush 51, 2) := by decide +kernel
theorem d_X12_chewsActs_36 : decode prog_14_method_82_code 36 = .ok (.invokevirtual 250, 3) := by decide +kernel
theorem d_X12_chewsActs_39 : decode prog_14_method_82_code 39 = .ok (.aload_n 0, 1) := by decide +kernel
theorem d_X12_chewsActs_40 : decode prog_14_method_82_code 40 = .ok (.iload_n 1, 1) := by decide +kernel
theorem d_X12_chewsActs_41 : decode prog_14_method_82_code 41 = .ok (.invokevirtual 262, 3) := by decide +kernel
theorem d_X12_chewsActs_44 : decode prog_14_method_82_code 44 = .ok (.aload_n 0, 1) := by decide +kernel
theorem d_X12_chewsActs_45 : decode prog_14_method_82_code 45 = .ok (.getfield 253, 3) := by decide +kernel
theorem d_X12_chewsActs_48 : decode prog_14_method_82_code 48 = .ok (.ixor, 1) := by decide +kernel
theorem d_X12_chewsActs_49 : decode prog_14_method_82_code 49 = .ok (.ireturn, 1) := by decide +kernel
theorem d_X12_chewsActs_50 : decode prog_14_method_82_code 50 = .ok (.aload_n 0, 1) := by decide +kernel
theorem d_X12_chewsActs_51 : decode prog_14_method_82_code 51 = .ok (.iload_n 1, 1) := by decide +kernel
theorem d_X12_chewsActs_52 : decode prog_14_method_82_code 52 = .ok (.invokevirtual 262, 3) := by decide +kernel
theorem d_X12_chewsActs_55 : decode prog_14_method_82_code 55 = .ok (.ireturn, 1) := by decide +kernel
def f_X12_chewsActs (a0 : Nat) (a1 : Int32) (μ : gm_M) : Option (Option Value × gm_M) := gm_gI μ [17] a0 20 (fun v1 => gm_bI (f_X12_isUnder v1 (1 : Int32) μ) (fun x3 m2 => if x3 = 0 then gm_gI m2 [17] a0 20 (fun v4 => if v4 ≠ (5 : Int32) then if gm_tag m2 a0 = 17 then gm_bI (f_X12_plainChews a0 a1 m2) (fun x6 m5 => some (some (.int x6), m5)) else none else if gm_tag m2 a0 = 17 then gm_bV (f_X12_ranBody a0 (51 : Int32) m2) (fun m7 => if gm_tag m7 a0 = 17 then gm_bI (f_X12_plainChews a0 a1 m7) (fun x10 m9 => gm_gI m9 [17] a0 21 (fun v11 => some (some (.int (x10 ^^^ v11)), m9))) else none) else none) else if gm_tag m2 a0 = 17 then gm_bV (f_X12_ranBody a0 (11 : Int32) m2) (fun m12 => if gm_tag m12 a0 = 17 then gm_bI (f_X12_plainChews a0 (a1 * (3 : Int32)) m12) (fun x15 m14 => some (some (.int x15), m14)) else none) else none))
set_option maxHeartbeats 4000000 in
theorem c_X12_chewsActs (a0 : Nat) (a1 : Int32) (μ : gm_M) : gm_Call ({ cls := "GumBubbleModel", name := "chewsActs", desc := "(I)I" } : Jvm.MethodName) prog_14_method_82_code 2 (some .int) 2 0 0 [.ref a0, .int a1] μ (f_X12_chewsActs a0 a1 μ) := by
  refine gm_start PN_12 (Nat.le_of_ble_eq_true rfl) (fun res μe => ?_)
  unfold f_X12_chewsActs
  show gm_A "GumBubbleModel" (gm_nm "chewsActs") _ _ _ _ _ _ _ _ _ 0 [(0, .ref a0), (1, .int a1)] [] _ _
  refine gm_aload_n d_X12_chewsActs_0 rfl 0 rfl ?_
  refine gm_getI F_12_kind gw_909 d_X12_chewsActs_1 (fun v1 _ => ?_)
  refine gm_iconst (v := 1) d_X12_chewsActs_4 (by decide) ?_
  refine gm_callS [.int v1, .int (1 : Int32)] (c_X12_isUnder v1 (1 : Int32) μ) B_X12_isUnder gw_1278 rfl rfl rfl d_X12_chewsActs_5 (gm_kI (fun x3 m2 => ?_))
  refine gm_if_eq (tgt := 25) d_X12_chewsActs_8 (by decide) (fun h8 => ?_) (fun h8 => ?_)
  ·
    refine gm_aload_n d_X12_chewsActs_25 rfl 0 rfl ?_
    refine gm_getI F_12_kind gw_909 d_X12_chewsActs_26 (fun v4 _ => ?_)
    refine gm_iconst (v := 5) d_X12_chewsActs_29 (by decide) ?_
    refine gm_icmp_ne (tgt := 50) d_X12_chewsActs_30 (by decide) (fun h30 => ?_) (fun h30 => ?_)
    ·
      refine gm_aload_n d_X12_chewsActs_50 rfl 0 rfl ?_
      refine gm_iload_n d_X12_chewsActs_51 rfl 1 rfl ?_
      refine gm_grd (fun g52 => ?_)
      refine gm_callV (k0 := 12) [.int a1] (c_X12_plainChews a0 a1 m2) g52 rfl B_X12_plainChews gw_1285 gs_66 rfl rfl rfl d_X12_chewsActs_52 (gm_kI (fun x6 m5 => ?_))
      exact gm_iret rfl d_X12_chewsActs_55 (Nat.le_of_ble_eq_true rfl) (Nat.le_of_ble_eq_true rfl) (fun h => h)
    ·
      refine gm_aload_n d_X12_chewsActs_33 rfl 0 rfl ?_
      refine gm_bipush (v := 51) d_X12_chewsActs_34 (by decide) ?_
      refine gm_grd (fun g36 => ?_)
      refine gm_callV (k0 := 12) [.int (51 : Int32)] (c_X12_ranBody a0 (51 : Int32) m2) g36 rfl B_X12_ranBody gw_1281 gs_65 rfl rfl rfl d_X12_chewsActs_36 (gm_kV (fun m7 => ?_))
      refine gm_aload_n d_X12_chewsActs_39 rfl 0 rfl ?_
      refine gm_iload_n d_X12_chewsActs_40 rfl 1 rfl ?_
      refine gm_grd (fun g41 => ?_)
      refine gm_callV (k0 := 12) [.int a1] (c_X12_plainChews a0 a1 m7) g41 rfl B_X12_plainChews gw_1285 gs_66 rfl rfl rfl d_X12_chewsActs_41 (gm_kI (fun x10 m9 => ?_))
      refine gm_aload_n d_X12_chewsActs_44 rfl 0 rfl ?_
      refine gm_getI F_12_number gw_910 d_X12_chewsActs_45 (fun v11 _ => ?_)
      refine gm_ixor d_X12_chewsActs_48 ?_
      exact gm_iret rfl d_X12_chewsActs_49 (Nat.le_of_ble_eq_true rfl) (Nat.le_of_ble_eq_true rfl) (fun h => h)
  ·
    refine gm_aload_n d_X12_chewsActs_11 rfl 0 rfl ?_
    refine gm_bipush (v := 11) d_X12_chewsActs_12 (by decide) ?_
    refine gm_grd (fun g14 => ?_)
    refine gm_callV (k0 := 12) [.int (11 : Int32)] (c_X12_ranBody a0 (11 : Int32) m2) g14 rfl B_X12_ranBody gw_1281 gs_65 rfl rfl rfl d_X12_chewsActs_14 (gm_kV (fun m12 => ?_))
    refine gm_aload_n d_X12_chewsActs_17 rfl 0 rfl ?_
    refine gm_iload_n d_X12_chewsActs_18 rfl 1 rfl ?_
    refine gm_iconst (v := 3) d_X12_chewsActs_19 (by decide) ?_
    refine gm_imul d_X12_chewsActs_20 ?_
    refine gm_grd (fun g21 => ?_)
    refine gm_callV (k0 := 12) [.int (a1 * (3 : Int32))] (c_X12_plainChews a0 (a1 * (3 : Int32)) m12) g21 rfl B_X12_plainChews gw_1285 gs_66 rfl rfl rfl d_X12_chewsActs_21 (gm_kI (fun x15 m14 => ?_))
    exact gm_iret rfl d_X12_chewsActs_24 (Nat.le_of_ble_eq_true rfl) (Nat.le_of_ble_eq_true rfl) (fun h => h)
theorem d_X12_plainBlows_0 : decode prog_14_method_83_code 0 = .ok (.aload_n 0, 1) := by decide +kernel
theorem d_X12_plainBlows_1 : decode prog_14_method_83_code 1 = .ok (.iconst 2, 1) := by decide +kernel
theorem d_X12_plainBlows_2 : decode prog_14_method_83_code 2 = .ok (.invokevirtual 250, 3) := by decide +kernel
theorem d_X12_plainBlows_5 : decode prog_14_method_83_code 5 = .ok (.aload_n 0, 1) := by decide +kernel
theorem d_X12_plainBlows_6 : decode prog_14_method_83_code 6 = .ok (.iload_n 1, 1) := by decide +kernel
theorem d_X12_plainBlows_7 : decode prog_14_method_83_code 7 = .ok (.invokevirtual 265, 3) := by decide +kernel
theorem d_X12_plainBlows_10 : decode prog_14_method_83_code 10 = .ok (.aload_n 0, 1) := by decide +kernel
theorem d_X12_plainBlows_11 : decode prog_14_method_83_code 11 = .ok (.getfield 268, 3) := by decide +kernel
theorem d_X12_plainBlows_14 : decode prog_14_method_83_code 14 = .ok (.isub, 1) := by decide +kernel
theorem d_X12_plainBlows_15 : decode prog_14_method_83_code 15 = .ok (.ireturn, 1) := by decide +kernel
def f_X12_plainBlows (a0 : Nat) (a1 : Int32) (μ : gm_M) : Option (Option Value × gm_M) := if gm_tag μ a0 = 17 then gm_bV (f_X12_ranBody a0 (2 : Int32) μ) (fun m1 => if gm_tag m1 a0 = 17 then gm_bI (f_X12_chewsActs a0 a1 m1) (fun x4 m3 => gm_gI m3 [17] a0 22 (fun v5 => some (some (.int (x4 - v5)), m3))) else none) else none
set_option maxHeartbeats 4000000 in
theorem c_X12_plainBlows (a0 : Nat) (a1 : Int32) (μ : gm_M) : gm_Call ({ cls := "GumBubbleModel", name := "plainBlows", desc := "(I)I" } : Jvm.MethodName) prog_14_method_83_code 2 (some .int) 3 0 0 [.ref a0, .int a1] μ (f_X12_plainBlows a0 a1 μ) := by
  refine gm_start PN_12 (Nat.le_of_ble_eq_true rfl) (fun res μe => ?_)
  unfold f_X12_plainBlows
  show gm_A "GumBubbleModel" (gm_nm "plainBlows") _ _ _ _ _ _ _ _ _ 0 [(0, .ref a0), (1, .int a1)] [] _ _
  refine gm_aload_n d_X12_plainBlows_0 rfl 0 rfl ?_
  refine gm_iconst (v := 2) d_X12_plainBlows_1 (by decide) ?_
  refine gm_grd (fun g2 => ?_)
  refine gm_callV (k0 := 12) [.int (2 : Int32)] (c_X12_ranBody a0 (2 : Int32) μ) g2 rfl B_X12_ranBody gw_1281 gs_65 rfl rfl rfl d_X12_plainBlows_2 (gm_kV (fun m1 => ?_))
  refine gm_aload_n d_X12_plainBlows_5 rfl 0 rfl ?_
  refine gm_iload_n d_X12_plainBlows_6 rfl 1 rfl ?_
  refine gm_grd (fun g7 => ?_)
  refine gm_callV (k0 := 12) [.int a1] (c_X12_chewsActs a0 a1 m1) g7 rfl B_X12_chewsActs gw_1274 gs_64 rfl rfl rfl d_X12_plainBlows_7 (gm_kI (fun x4 m3 => ?_))
  refine gm_aload_n d_X12_plainBlows_10 rfl 0 rfl ?_
  refine gm_getI F_12_tellsV gw_911 d_X12_plainBlows_11 (fun v5 _ => ?_)
  refine gm_isub d_X12_plainBlows_14 ?_
  exact gm_iret rfl d_X12_plainBlows_15 (Nat.le_of_ble_eq_true rfl) (Nat.le_of_ble_eq_true rfl) (fun h => h)
theorem d_X12_blowsActs_0 : decode prog_14_method_84_code 0 = .ok (.aload_n 0, 1) := by decide +kernel
theorem d_X12_blowsActs_1 : decode prog_14_method_84_code 1 = .ok (.getfield 256, 3) := by decide +kernel
theorem d_X12_blowsActs_4 : decode prog_14_method_84_code 4 = .ok (.iconst 2, 1) := by decide +kernel
theorem d_X12_blowsActs_5 : decode prog_14_method_84_code 5 = .ok (.invokestatic 259, 3) := by decide +kernel
theorem d_X12_blowsActs_8 : decode prog_14_method_84_code 8 = .ok (.ifCond .eq 16, 3) := by decide +kernel
theorem d_X12_blowsActs_11 : decode prog_14_method_84_code 11 = .ok (.aload_n 0, 1) := by decide +kernel
theorem d_X12_blowsActs_12 : decode prog_14_method_84_code 12 = .ok (.bipush 21, 2) := by decide +kernel
theorem d_X12_blowsActs_14 : decode prog_14_method_84_code 14 = .ok (.invokevirtual 250, 3) := by decide +kernel
theorem d_X12_blowsActs_17 : decode prog_14_method_84_code 17 = .ok (.aload_n 0, 1) := by decide +kernel
theorem d_X12_blowsActs_18 : decode prog_14_method_84_code 18 = .ok (.iload_n 1, 1) := by decide +kernel
theorem d_X12_blowsActs_19 : decode prog_14_method_84_code 19 = .ok (.invokevirtual 271, 3) := by decide +kernel
theorem d_X12_blowsActs_22 : decode prog_14_method_84_code 22 = .ok (.ineg, 1) := by decide +kernel
theorem d_X12_blowsActs_23 : decode prog_14_method_84_code 23 = .ok (.ireturn, 1) := by decide +kernel
theorem d_X12_blowsActs_24 : decode prog_14_method_84_code 24 = .ok (.aload_n 0, 1) := by decide +kernel
theorem d_X12_blowsActs_25 : decode prog_14_method_84_code 25 = .ok (.getfield 256, 3) := by decide +kernel
theorem d_X12_blowsActs_28 : decode prog_14_method_84_code 28 = .ok (.bipush 6, 2) := by decide +kernel
theorem d_X12_blowsActs_30 : decode prog_14_method_84_code 30 = .ok (.if_icmp .ne 20, 3) := by decide +kernel
theorem d_X12_blowsActs_33 : decode prog_14_method_84_code 33 = .ok (.aload_n 0, 1) := by decide +kernel
theorem d_X12_blowsActs_34 : decode prog_14_method_84_code 34 = .ok (.bipush 61, 2) := by decide +kernel
theorem d_X12_blowsActs_36 : decode prog_14_method_84_code 36 = .ok (.invokevirtual 250, 3) := by decide +kernel
theorem d_X12_blowsActs_39 : decode prog_14_method_84_code 39 = .ok (.aload_n 0, 1) := by decide +kernel
theorem d_X12_blowsActs_40 : decode prog_14_method_84_code 40 = .ok (.iload_n 1, 1) := by decide +kernel
theorem d_X12_blowsActs_41 : decode prog_14_method_84_code 41 = .ok (.invokevirtual 271, 3) := by decide +kernel
theorem d_X12_blowsActs_44 : decode prog_14_method_84_code 44 = .ok (.aload_n 0, 1) := by decide +kernel
theorem d_X12_blowsActs_45 : decode prog_14_method_84_code 45 = .ok (.getfield 268, 3) := by decide +kernel
theorem d_X12_blowsActs_48 : decode prog_14_method_84_code 48 = .ok (.iadd, 1) := by decide +kernel
theorem d_X12_blowsActs_49 : decode prog_14_method_84_code 49 = .ok (.ireturn, 1) := by decide +kernel
theorem d_X12_blowsActs_50 : decode prog_14_method_84_code 50 = .ok (.aload_n 0, 1) := by decide +kernel
theorem d_X12_blowsActs_51 : decode prog_14_method_84_code 51 = .ok (.iload_n 1, 1) := by decide +kernel
theorem d_X12_blowsActs_52 : decode prog_14_method_84_code 52 = .ok (.invokevirtual 271, 3) := by decide +kernel
theorem d_X12_blowsActs_55 : decode prog_14_method_84_code 55 = .ok (.ireturn, 1) := by decide +kernel
def f_X12_blowsActs (a0 : Nat) (a1 : Int32) (μ : gm_M) : Option (Option Value × gm_M) := gm_gI μ [17] a0 20 (fun v1 => gm_bI (f_X12_isUnder v1 (2 : Int32) μ) (fun x3 m2 => if x3 = 0 then gm_gI m2 [17] a0 20 (fun v4 => if v4 ≠ (6 : Int32) then if gm_tag m2 a0 = 17 then gm_bI (f_X12_plainBlows a0 a1 m2) (fun x6 m5 => some (some (.int x6), m5)) else none else if gm_tag m2 a0 = 17 then gm_bV (f_X12_ranBody a0 (61 : Int32) m2) (fun m7 => if gm_tag m7 a0 = 17 then gm_bI (f_X12_plainBlows a0 a1 m7) (fun x10 m9 => gm_gI m9 [17] a0 22 (fun v11 => some (some (.int (x10 + v11)), m9))) else none) else none) else if gm_tag m2 a0 = 17 then gm_bV (f_X12_ranBody a0 (21 : Int32) m2) (fun m12 => if gm_tag m12 a0 = 17 then gm_bI (f_X12_plainBlows a0 a1 m12) (fun x15 m14 => some (some (.int (-x15)), m14)) else none) else none))
set_option maxHeartbeats 4000000 in
theorem c_X12_blowsActs (a0 : Nat) (a1 : Int32) (μ : gm_M) : gm_Call ({ cls := "GumBubbleModel", name := "blowsActs", desc := "(I)I" } : Jvm.MethodName) prog_14_method_84_code 2 (some .int) 4 0 0 [.ref a0, .int a1] μ (f_X12_blowsActs a0 a1 μ) := by
  refine gm_start PN_12 (Nat.le_of_ble_eq_true rfl) (fun res μe => ?_)
  unfold f_X12_blowsActs
  show gm_A "GumBubbleModel" (gm_nm "blowsActs") _ _ _ _ _ _ _ _ _ 0 [(0, .ref a0), (1, .int a1)] [] _ _
  refine gm_aload_n d_X12_blowsActs_0 rfl 0 rfl ?_
  refine gm_getI F_12_kind gw_909 d_X12_blowsActs_1 (fun v1 _ => ?_)
  refine gm_iconst (v := 2) d_X12_blowsActs_4 (by decide) ?_
  refine gm_callS [.int v1, .int (2 : Int32)] (c_X12_isUnder v1 (2 : Int32) μ) B_X12_isUnder gw_1278 rfl rfl rfl d_X12_blowsActs_5 (gm_kI (fun x3 m2 => ?_))
  refine gm_if_eq (tgt := 24) d_X12_blowsActs_8 (by decide) (fun h8 => ?_) (fun h8 => ?_)
  ·
    refine gm_aload_n d_X12_blowsActs_24 rfl 0 rfl ?_
    refine gm_getI F_12_kind gw_909 d_X12_blowsActs_25 (fun v4 _ => ?_)
    refine gm_bipush (v := 6) d_X12_blowsActs_28 (by decide) ?_
    refine gm_icmp_ne (tgt := 50) d_X12_blowsActs_30 (by decide) (fun h30 => ?_) (fun h30 => ?_)
    ·
      refine gm_aload_n d_X12_blowsActs_50 rfl 0 rfl ?_
      refine gm_iload_n d_X12_blowsActs_51 rfl 1 rfl ?_
      refine gm_grd (fun g52 => ?_)
      refine gm_callV (k0 := 12) [.int a1] (c_X12_plainBlows a0 a1 m2) g52 rfl B_X12_plainBlows gw_1293 gs_68 rfl rfl rfl d_X12_blowsActs_52 (gm_kI (fun x6 m5 => ?_))
      exact gm_iret rfl d_X12_blowsActs_55 (Nat.le_of_ble_eq_true rfl) (Nat.le_of_ble_eq_true rfl) (fun h => h)
    ·
      refine gm_aload_n d_X12_blowsActs_33 rfl 0 rfl ?_
      refine gm_bipush (v := 61) d_X12_blowsActs_34 (by decide) ?_
      refine gm_grd (fun g36 => ?_)
      refine gm_callV (k0 := 12) [.int (61 : Int32)] (c_X12_ranBody a0 (61 : Int32) m2) g36 rfl B_X12_ranBody gw_1281 gs_65 rfl rfl rfl d_X12_blowsActs_36 (gm_kV (fun m7 => ?_))
      refine gm_aload_n d_X12_blowsActs_39 rfl 0 rfl ?_
      refine gm_iload_n d_X12_blowsActs_40 rfl 1 rfl ?_
      refine gm_grd (fun g41 => ?_)
      refine gm_callV (k0 := 12) [.int a1] (c_X12_plainBlows a0 a1 m7) g41 rfl B_X12_plainBlows gw_1293 gs_68 rfl rfl rfl d_X12_blowsActs_41 (gm_kI (fun x10 m9 => ?_))
      refine gm_aload_n d_X12_blowsActs_44 rfl 0 rfl ?_
      refine gm_getI F_12_tellsV gw_911 d_X12_blowsActs_45 (fun v11 _ => ?_)
      refine gm_iadd d_X12_blowsActs_48 ?_
      exact gm_iret rfl d_X12_blowsActs_49 (Nat.le_of_ble_eq_true rfl) (Nat.le_of_ble_eq_true rfl) (fun h => h)
  ·
    refine gm_aload_n d_X12_blowsActs_11 rfl 0 rfl ?_
    refine gm_bipush (v := 21) d_X12_blowsActs_12 (by decide) ?_
    refine gm_grd (fun g14 => ?_)
    refine gm_callV (k0 := 12) [.int (21 : Int32)] (c_X12_ranBody a0 (21 : Int32) m2) g14 rfl B_X12_ranBody gw_1281 gs_65 rfl rfl rfl d_X12_blowsActs_14 (gm_kV (fun m12 => ?_))
    refine gm_aload_n d_X12_blowsActs_17 rfl 0 rfl ?_
    refine gm_iload_n d_X12_blowsActs_18 rfl 1 rfl ?_
    refine gm_grd (fun g19 => ?_)
    refine gm_callV (k0 := 12) [.int a1] (c_X12_plainBlows a0 a1 m12) g19 rfl B_X12_plainBlows gw_1293 gs_68 rfl rfl rfl d_X12_blowsActs_19 (gm_kI (fun x15 m14 => ?_))
    refine gm_ineg d_X12_blowsActs_22 ?_
    exact gm_iret rfl d_X12_blowsActs_23 (Nat.le_of_ble_eq_true rfl) (Nat.le_of_ble_eq_true rfl) (fun h => h)
theorem d_X12_in_0 : decode prog_14_method_3_code 0 = .ok (.iload_n 0, 1) := by decide +kernel
theorem d_X12_in_1 : decode prog_14_method_3_code 1 = .ok (.iload_n 1, 1) := by decide +kernel
theorem d_X12_in_2 : decode prog_14_method_3_code 2 = .ok (.if_icmp .lt 12, 3) := by decide +kernel
theorem d_X12_in_5 : decode prog_14_method_3_code 5 = .ok (.iload_n 0, 1) := by decide +kernel
theorem d_X12_in_6 : decode prog_14_method_3_code 6 = .ok (.iload_n 2, 1) := by decide +kernel
theorem d_X12_in_7 : decode prog_14_method_3_code 7 = .ok (.if_icmp .gt 7, 3) := by decide +kernel
theorem d_X12_in_10 : decode prog_14_method_3_code 10 = .ok (.iconst 1, 1) := by decide +kernel
theorem d_X12_in_11 : decode prog_14_method_3_code 11 = .ok (.goto 4, 3) := by decide +kernel
theorem d_X12_in_14 : decode prog_14_method_3_code 14 = .ok (.iconst 0, 1) := by decide +kernel
theorem d_X12_in_15 : decode prog_14_method_3_code 15 = .ok (.ireturn, 1) := by decide +kernel
def f_X12_in (a0 : Int32) (a1 : Int32) (a2 : Int32) (μ : gm_M) : Option (Option Value × gm_M) := if a0 < a1 then if (0 : Int32) = 0 ∨ (0 : Int32) = 1 then some (some (.int (0 : Int32)), μ) else none else if a2 < a0 then if (0 : Int32) = 0 ∨ (0 : Int32) = 1 then some (some (.int (0 : Int32)), μ) else none else if (1 : Int32) = 0 ∨ (1 : Int32) = 1 then some (some (.int (1 : Int32)), μ) else none
set_option maxHeartbeats 4000000 in
theorem c_X12_in (a0 : Int32) (a1 : Int32) (a2 : Int32) (μ : gm_M) : gm_Call ({ cls := "GumBubbleModel", name := "in", desc := "(III)Z" } : Jvm.MethodName) prog_14_method_3_code 3 (some .boolean) 0 0 0 [.int a0, .int a1, .int a2] μ (f_X12_in a0 a1 a2 μ) := by
  refine gm_start PN_12 (Nat.le_of_ble_eq_true rfl) (fun res μe => ?_)
  unfold f_X12_in
  show gm_A "GumBubbleModel" (gm_nm "in") _ _ _ _ _ _ _ _ _ 0 [(0, .int a0), (1, .int a1), (2, .int a2)] [] _ _
  refine gm_iload_n d_X12_in_0 rfl 0 rfl ?_
  refine gm_iload_n d_X12_in_1 rfl 1 rfl ?_
  refine gm_icmp_lt (tgt := 14) d_X12_in_2 (by decide) (fun h2 => ?_) (fun h2 => ?_)
  ·
    refine gm_iconst (v := 0) d_X12_in_14 (by decide) ?_
    exact gm_zret rfl d_X12_in_15 (Nat.le_of_ble_eq_true rfl) (Nat.le_of_ble_eq_true rfl) (fun h => h)
  ·
    refine gm_iload_n d_X12_in_5 rfl 0 rfl ?_
    refine gm_iload_n d_X12_in_6 rfl 2 rfl ?_
    refine gm_icmp_gt (tgt := 14) d_X12_in_7 (by decide) (fun h7 => ?_) (fun h7 => ?_)
    ·
      refine gm_iconst (v := 0) d_X12_in_14 (by decide) ?_
      exact gm_zret rfl d_X12_in_15 (Nat.le_of_ble_eq_true rfl) (Nat.le_of_ble_eq_true rfl) (fun h => h)
    ·
      refine gm_iconst (v := 1) d_X12_in_10 (by decide) ?_
      refine gm_goto (tgt := 15) d_X12_in_11 (by decide) ?_
      exact gm_zret rfl d_X12_in_15 (Nat.le_of_ble_eq_true rfl) (Nat.le_of_ble_eq_true rfl) (fun h => h)
theorem d_X12_isChild_0 : decode prog_14_method_6_code 0 = .ok (.iload_n 1, 1) := by decide +kernel
theorem d_X12_isChild_1 : decode prog_14_method_6_code 1 = .ok (.iconst 0, 1) := by decide +kernel
theorem d_X12_isChild_2 : decode prog_14_method_6_code 2 = .ok (.aload_n 0, 1) := by decide +kernel
theorem d_X12_isChild_3 : decode prog_14_method_6_code 3 = .ok (.getfield 9, 3) := by decide +kernel
theorem d_X12_isChild_6 : decode prog_14_method_6_code 6 = .ok (.bipush 26, 2) := by decide +kernel
theorem d_X12_isChild_8 : decode prog_14_method_6_code 8 = .ok (.iaload, 1) := by decide +kernel
theorem d_X12_isChild_9 : decode prog_14_method_6_code 9 = .ok (.iconst 1, 1) := by decide +kernel
theorem d_X12_isChild_10 : decode prog_14_method_6_code 10 = .ok (.isub, 1) := by decide +kernel
theorem d_X12_isChild_11 : decode prog_14_method_6_code 11 = .ok (.invokestatic 44, 3) := by decide +kernel
theorem d_X12_isChild_14 : decode prog_14_method_6_code 14 = .ok (.ireturn, 1) := by decide +kernel
def f_X12_isChild (a0 : Nat) (a1 : Int32) (μ : gm_M) : Option (Option Value × gm_M) := gm_gR μ [17] a0 1 (fun v1 => gm_aI μ v1 (26 : Int32) (fun v2 => gm_bI (f_X12_in a1 (0 : Int32) (v2 - (1 : Int32)) μ) (fun x4 m3 => if x4 = 0 ∨ x4 = 1 then some (some (.int x4), m3) else none)))
set_option maxHeartbeats 4000000 in
theorem c_X12_isChild (a0 : Nat) (a1 : Int32) (μ : gm_M) : gm_Call ({ cls := "GumBubbleModel", name := "isChild", desc := "(I)Z" } : Jvm.MethodName) prog_14_method_6_code 2 (some .boolean) 1 0 0 [.ref a0, .int a1] μ (f_X12_isChild a0 a1 μ) := by
  refine gm_start PN_12 (Nat.le_of_ble_eq_true rfl) (fun res μe => ?_)
  unfold f_X12_isChild
  show gm_A "GumBubbleModel" (gm_nm "isChild") _ _ _ _ _ _ _ _ _ 0 [(0, .ref a0), (1, .int a1)] [] _ _
  refine gm_iload_n d_X12_isChild_0 rfl 1 rfl ?_
  refine gm_iconst (v := 0) d_X12_isChild_1 (by decide) ?_
  refine gm_aload_n d_X12_isChild_2 rfl 0 rfl ?_
  refine gm_getR F_12_s gw_890 d_X12_isChild_3 (fun v1 _ => ?_)
  refine gm_bipush (v := 26) d_X12_isChild_6 (by decide) ?_
  refine gm_iald d_X12_isChild_8 (fun v2 _ => ?_)
  refine gm_iconst (v := 1) d_X12_isChild_9 (by decide) ?_
  refine gm_isub d_X12_isChild_10 ?_
  refine gm_callS [.int a1, .int (0 : Int32), .int (v2 - (1 : Int32))] (c_X12_in a1 (0 : Int32) (v2 - (1 : Int32)) μ) B_X12_in gw_964 rfl rfl rfl d_X12_isChild_11 (gm_kI (fun x4 m3 => ?_))
  exact gm_zret rfl d_X12_isChild_14 (Nat.le_of_ble_eq_true rfl) (Nat.le_of_ble_eq_true rfl) (fun h => h)
theorem d_X12_plainTelling_0 : decode prog_14_method_85_code 0 = .ok (.aload_n 0, 1) := by decide +kernel
theorem d_X12_plainTelling_1 : decode prog_14_method_85_code 1 = .ok (.iconst 3, 1) := by decide +kernel
theorem d_X12_plainTelling_2 : decode prog_14_method_85_code 2 = .ok (.invokevirtual 250, 3) := by decide +kernel
theorem d_X12_plainTelling_5 : decode prog_14_method_85_code 5 = .ok (.aload_n 0, 1) := by decide +kernel
theorem d_X12_plainTelling_6 : decode prog_14_method_85_code 6 = .ok (.iload_n 1, 1) := by decide +kernel
theorem d_X12_plainTelling_7 : decode prog_14_method_85_code 7 = .ok (.invokevirtual 274, 3) := by decide +kernel
theorem d_X12_plainTelling_10 : decode prog_14_method_85_code 10 = .ok (.iconst 2, 1) := by decide +kernel
theorem d_X12_plainTelling_11 : decode prog_14_method_85_code 11 = .ok (.imul, 1) := by decide +kernel
theorem d_X12_plainTelling_12 : decode prog_14_method_85_code 12 = .ok (.ireturn, 1) := by decide +kernel
def f_X12_plainTelling (a0 : Nat) (a1 : Int32) (μ : gm_M) : Option (Option Value × gm_M) := if gm_tag μ a0 = 17 then gm_bV (f_X12_ranBody a0 (3 : Int32) μ) (fun m1 => if gm_tag m1 a0 = 17 then gm_bI (f_X12_blowsActs a0 a1 m1) (fun x4 m3 => some (some (.int (x4 * (2 : Int32))), m3)) else none) else none
set_option maxHeartbeats 4000000 in
theorem c_X12_plainTelling (a0 : Nat) (a1 : Int32) (μ : gm_M) : gm_Call ({ cls := "GumBubbleModel", name := "plainTelling", desc := "(I)I" } : Jvm.MethodName) prog_14_method_85_code 2 (some .int) 5 0 0 [.ref a0, .int a1] μ (f_X12_plainTelling a0 a1 μ) := by
  refine gm_start PN_12 (Nat.le_of_ble_eq_true rfl) (fun res μe => ?_)
  unfold f_X12_plainTelling
  show gm_A "GumBubbleModel" (gm_nm "plainTelling") _ _ _ _ _ _ _ _ _ 0 [(0, .ref a0), (1, .int a1)] [] _ _
  refine gm_aload_n d_X12_plainTelling_0 rfl 0 rfl ?_
  refine gm_iconst (v := 3) d_X12_plainTelling_1 (by decide) ?_
  refine gm_grd (fun g2 => ?_)
  refine gm_callV (k0 := 12) [.int (3 : Int32)] (c_X12_ranBody a0 (3 : Int32) μ) g2 rfl B_X12_ranBody gw_1281 gs_65 rfl rfl rfl d_X12_plainTelling_2 (gm_kV (fun m1 => ?_))
  refine gm_aload_n d_X12_plainTelling_5 rfl 0 rfl ?_
  refine gm_iload_n d_X12_plainTelling_6 rfl 1 rfl ?_
  refine gm_grd (fun g7 => ?_)
  refine gm_callV (k0 := 12) [.int a1] (c_X12_blowsActs a0 a1 m1) g7 rfl B_X12_blowsActs gw_1289 gs_67 rfl rfl rfl d_X12_plainTelling_7 (gm_kI (fun x4 m3 => ?_))
  refine gm_iconst (v := 2) d_X12_plainTelling_10 (by decide) ?_
  refine gm_imul d_X12_plainTelling_11 ?_
  exact gm_iret rfl d_X12_plainTelling_12 (Nat.le_of_ble_eq_true rfl) (Nat.le_of_ble_eq_true rfl) (fun h => h)
theorem d_X12_tellsActs_0 : decode prog_14_method_86_code 0 = .ok (.aload_n 0, 1) := by decide +kernel
theorem d_X12_tellsActs_1 : decode prog_14_method_86_code 1 = .ok (.getfield 256, 3) := by decide +kernel
theorem d_X12_tellsActs_4 : decode prog_14_method_86_code 4 = .ok (.iconst 3, 1) := by decide +kernel
theorem d_X12_tellsActs_5 : decode prog_14_method_86_code 5 = .ok (.invokestatic 259, 3) := by decide +kernel
theorem d_X12_tellsActs_8 : decode prog_14_method_86_code 8 = .ok (.ifCond .eq 18, 3) := by decide +kernel
theorem d_X12_tellsActs_11 : decode prog_14_method_86_code 11 = .ok (.aload_n 0, 1) := by decide +kernel
theorem d_X12_tellsActs_12 : decode prog_14_method_86_code 12 = .ok (.bipush 31, 2) := by decide +kernel
theorem d_X12_tellsActs_14 : decode prog_14_method_86_code 14 = .ok (.invokevirtual 250, 3) := by decide +kernel
theorem d_X12_tellsActs_17 : decode prog_14_method_86_code 17 = .ok (.aload_n 0, 1) := by decide +kernel
theorem d_X12_tellsActs_18 : decode prog_14_method_86_code 18 = .ok (.iload_n 1, 1) := by decide +kernel
theorem d_X12_tellsActs_19 : decode prog_14_method_86_code 19 = .ok (.invokevirtual 277, 3) := by decide +kernel
theorem d_X12_tellsActs_22 : decode prog_14_method_86_code 22 = .ok (.bipush 7, 2) := by decide +kernel
theorem d_X12_tellsActs_24 : decode prog_14_method_86_code 24 = .ok (.ixor, 1) := by decide +kernel
theorem d_X12_tellsActs_25 : decode prog_14_method_86_code 25 = .ok (.ireturn, 1) := by decide +kernel
theorem d_X12_tellsActs_26 : decode prog_14_method_86_code 26 = .ok (.aload_n 0, 1) := by decide +kernel
theorem d_X12_tellsActs_27 : decode prog_14_method_86_code 27 = .ok (.getfield 256, 3) := by decide +kernel
theorem d_X12_tellsActs_30 : decode prog_14_method_86_code 30 = .ok (.iconst 4, 1) := by decide +kernel
theorem d_X12_tellsActs_31 : decode prog_14_method_86_code 31 = .ok (.if_icmp .ne 25, 3) := by decide +kernel
theorem d_X12_tellsActs_34 : decode prog_14_method_86_code 34 = .ok (.aload_n 0, 1) := by decide +kernel
theorem d_X12_tellsActs_35 : decode prog_14_method_86_code 35 = .ok (.bipush 41, 2) := by decide +kernel
theorem d_X12_tellsActs_37 : decode prog_14_method_86_code 37 = .ok (.invokevirtual 250, 3) := by decide +kernel
theorem d_X12_tellsActs_40 : decode prog_14_method_86_code 40 = .ok (.aload_n 0, 1) := by decide +kernel
theorem d_X12_tellsActs_41 : decode prog_14_method_86_code 41 = .ok (.iload_n 1, 1) := by decide +kernel
theorem d_X12_tellsActs_42 : decode prog_14_method_86_code 42 = .ok (.iconst 1, 1) := by decide +kernel
theorem d_X12_tellsActs_43 : decode prog_14_method_86_code 43 = .ok (.isub, 1) := by decide +kernel
theorem d_X12_tellsActs_44 : decode prog_14_method_86_code 44 = .ok (.invokevirtual 277, 3) := by decide +kernel
theorem d_X12_tellsActs_47 : decode prog_14_method_86_code 47 = .ok (.istore_n 2, 1) := by decide +kernel
theorem d_X12_tellsActs_48 : decode prog_14_method_86_code 48 = .ok (.iload_n 2, 1) := by decide +kernel
theorem d_X12_tellsActs_49 : decode prog_14_method_86_code 49 = .ok (.aload_n 0, 1) := by decide +kernel
theorem d_X12_tellsActs_50 : decode prog_14_method_86_code 50 = .ok (.iconst 2, 1) := by decide +kernel
theorem d_X12_tellsActs_51 : decode prog_14_method_86_code 51 = .ok (.invokevirtual 265, 3) := by decide +kernel
theorem d_X12_tellsActs_54 : decode prog_14_method_86_code 54 = .ok (.iadd, 1) := by decide +kernel
theorem d_X12_tellsActs_55 : decode prog_14_method_86_code 55 = .ok (.ireturn, 1) := by decide +kernel
theorem d_X12_tellsActs_56 : decode prog_14_method_86_code 56 = .ok (.aload_n 0, 1) := by decide +kernel
theorem d_X12_tellsActs_57 : decode prog_14_method_86_code 57 = .ok (.iload_n 1, 1) := by decide +kernel
theorem d_X12_tellsActs_58 : decode prog_14_method_86_code 58 = .ok (.invokevirtual 277, 3) := by decide +kernel
theorem d_X12_tellsActs_61 : decode prog_14_method_86_code 61 = .ok (.ireturn, 1) := by decide +kernel
def f_X12_tellsActs (a0 : Nat) (a1 : Int32) (μ : gm_M) : Option (Option Value × gm_M) := gm_gI μ [17] a0 20 (fun v1 => gm_bI (f_X12_isUnder v1 (3 : Int32) μ) (fun x3 m2 => if x3 = 0 then gm_gI m2 [17] a0 20 (fun v4 => if v4 ≠ (4 : Int32) then if gm_tag m2 a0 = 17 then gm_bI (f_X12_plainTelling a0 a1 m2) (fun x6 m5 => some (some (.int x6), m5)) else none else if gm_tag m2 a0 = 17 then gm_bV (f_X12_ranBody a0 (41 : Int32) m2) (fun m7 => if gm_tag m7 a0 = 17 then gm_bI (f_X12_plainTelling a0 (a1 - (1 : Int32)) m7) (fun x10 m9 => if gm_tag m9 a0 = 17 then gm_bI (f_X12_chewsActs a0 (2 : Int32) m9) (fun x12 m11 => some (some (.int (x10 + x12)), m11)) else none) else none) else none) else if gm_tag m2 a0 = 17 then gm_bV (f_X12_ranBody a0 (31 : Int32) m2) (fun m13 => if gm_tag m13 a0 = 17 then gm_bI (f_X12_plainTelling a0 a1 m13) (fun x16 m15 => some (some (.int (x16 ^^^ (7 : Int32))), m15)) else none) else none))
set_option maxHeartbeats 4000000 in
theorem c_X12_tellsActs (a0 : Nat) (a1 : Int32) (μ : gm_M) : gm_Call ({ cls := "GumBubbleModel", name := "tellsActs", desc := "(I)I" } : Jvm.MethodName) prog_14_method_86_code 3 (some .int) 6 0 0 [.ref a0, .int a1] μ (f_X12_tellsActs a0 a1 μ) := by
  refine gm_start PN_12 (Nat.le_of_ble_eq_true rfl) (fun res μe => ?_)
  unfold f_X12_tellsActs
  show gm_A "GumBubbleModel" (gm_nm "tellsActs") _ _ _ _ _ _ _ _ _ 0 [(0, .ref a0), (1, .int a1)] [] _ _
  refine gm_aload_n d_X12_tellsActs_0 rfl 0 rfl ?_
  refine gm_getI F_12_kind gw_909 d_X12_tellsActs_1 (fun v1 _ => ?_)
  refine gm_iconst (v := 3) d_X12_tellsActs_4 (by decide) ?_
  refine gm_callS [.int v1, .int (3 : Int32)] (c_X12_isUnder v1 (3 : Int32) μ) B_X12_isUnder gw_1278 rfl rfl rfl d_X12_tellsActs_5 (gm_kI (fun x3 m2 => ?_))
  refine gm_if_eq (tgt := 26) d_X12_tellsActs_8 (by decide) (fun h8 => ?_) (fun h8 => ?_)
  ·
    refine gm_aload_n d_X12_tellsActs_26 rfl 0 rfl ?_
    refine gm_getI F_12_kind gw_909 d_X12_tellsActs_27 (fun v4 _ => ?_)
    refine gm_iconst (v := 4) d_X12_tellsActs_30 (by decide) ?_
    refine gm_icmp_ne (tgt := 56) d_X12_tellsActs_31 (by decide) (fun h31 => ?_) (fun h31 => ?_)
    ·
      refine gm_aload_n d_X12_tellsActs_56 rfl 0 rfl ?_
      refine gm_iload_n d_X12_tellsActs_57 rfl 1 rfl ?_
      refine gm_grd (fun g58 => ?_)
      refine gm_callV (k0 := 12) [.int a1] (c_X12_plainTelling a0 a1 m2) g58 rfl B_X12_plainTelling gw_1301 gs_70 rfl rfl rfl d_X12_tellsActs_58 (gm_kI (fun x6 m5 => ?_))
      exact gm_iret rfl d_X12_tellsActs_61 (Nat.le_of_ble_eq_true rfl) (Nat.le_of_ble_eq_true rfl) (fun h => h)
    ·
      refine gm_aload_n d_X12_tellsActs_34 rfl 0 rfl ?_
      refine gm_bipush (v := 41) d_X12_tellsActs_35 (by decide) ?_
      refine gm_grd (fun g37 => ?_)
      refine gm_callV (k0 := 12) [.int (41 : Int32)] (c_X12_ranBody a0 (41 : Int32) m2) g37 rfl B_X12_ranBody gw_1281 gs_65 rfl rfl rfl d_X12_tellsActs_37 (gm_kV (fun m7 => ?_))
      refine gm_aload_n d_X12_tellsActs_40 rfl 0 rfl ?_
      refine gm_iload_n d_X12_tellsActs_41 rfl 1 rfl ?_
      refine gm_iconst (v := 1) d_X12_tellsActs_42 (by decide) ?_
      refine gm_isub d_X12_tellsActs_43 ?_
      refine gm_grd (fun g44 => ?_)
      refine gm_callV (k0 := 12) [.int (a1 - (1 : Int32))] (c_X12_plainTelling a0 (a1 - (1 : Int32)) m7) g44 rfl B_X12_plainTelling gw_1301 gs_70 rfl rfl rfl d_X12_tellsActs_44 (gm_kI (fun x10 m9 => ?_))
      refine gm_istore_n (L' := [(2, .int x10), (0, .ref a0), (1, .int a1)]) d_X12_tellsActs_47 rfl (Nat.le_of_ble_eq_true rfl) rfl ?_
      refine gm_iload_n d_X12_tellsActs_48 rfl 0 rfl ?_
      refine gm_aload_n d_X12_tellsActs_49 rfl 1 rfl ?_
      refine gm_iconst (v := 2) d_X12_tellsActs_50 (by decide) ?_
      refine gm_grd (fun g51 => ?_)
      refine gm_callV (k0 := 12) [.int (2 : Int32)] (c_X12_chewsActs a0 (2 : Int32) m9) g51 rfl B_X12_chewsActs gw_1274 gs_64 rfl rfl rfl d_X12_tellsActs_51 (gm_kI (fun x12 m11 => ?_))
      refine gm_iadd d_X12_tellsActs_54 ?_
      exact gm_iret rfl d_X12_tellsActs_55 (Nat.le_of_ble_eq_true rfl) (Nat.le_of_ble_eq_true rfl) (fun h => h)
  ·
    refine gm_aload_n d_X12_tellsActs_11 rfl 0 rfl ?_
    refine gm_bipush (v := 31) d_X12_tellsActs_12 (by decide) ?_
    refine gm_grd (fun g14 => ?_)
    refine gm_callV (k0 := 12) [.int (31 : Int32)] (c_X12_ranBody a0 (31 : Int32) m2) g14 rfl B_X12_ranBody gw_1281 gs_65 rfl rfl rfl d_X12_tellsActs_14 (gm_kV (fun m13 => ?_))
    refine gm_aload_n d_X12_tellsActs_17 rfl 0 rfl ?_
    refine gm_iload_n d_X12_tellsActs_18 rfl 1 rfl ?_
    refine gm_grd (fun g19 => ?_)
    refine gm_callV (k0 := 12) [.int a1] (c_X12_plainTelling a0 a1 m13) g19 rfl B_X12_plainTelling gw_1301 gs_70 rfl rfl rfl d_X12_tellsActs_19 (gm_kI (fun x16 m15 => ?_))
    refine gm_bipush (v := 7) d_X12_tellsActs_22 (by decide) ?_
    refine gm_ixor d_X12_tellsActs_24 ?_
    exact gm_iret rfl d_X12_tellsActs_25 (Nat.le_of_ble_eq_true rfl) (Nat.le_of_ble_eq_true rfl) (fun h => h)
