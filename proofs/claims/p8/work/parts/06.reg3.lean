set_option maxRecDepth 20000 in
theorem B_X7_bitsAt_0 {E : zm_E} {K : zm_K} {Post : zm_Po} {nc ns : Nat} (C : zm_Cx E K cX7_bitsAt RX7 1 0 0 0 10) (Rt : zm_Rt E Post 0 0 (some .long)) {a0 : Nat} {i1 : Int32} {i2 : Int32} {h : zm_H} (w : zm_Go E nc ns 7 [(0, .ref a0), (1, .int i1), (2, .int i2), (3, .long (lN 0)), (5, .int (i1 >>> ((nI 3) &&& 31)))] [] h) : zm_Go E nc ns 0 [(0, .ref a0), (1, .int i1), (2, .int i2)] [] h := by
  refine zm_lconst (v := lN 0) C (by decide) dX7_bitsAt_0 ?_
  refine zm_lstore_n (L' := [(0, .ref a0), (1, .int i1), (2, .int i2), (3, .long (lN 0))]) C rfl (by decide) [1, 2, 3, 0] dX7_bitsAt_1 rfl ?_
  refine zm_iload_n C rfl 1 rfl dX7_bitsAt_2 ?_
  refine zm_iconst (v := nI 3) C (by decide) dX7_bitsAt_3 ?_
  refine zm_ishr C dX7_bitsAt_4 ?_
  refine zm_istore (L' := [(0, .ref a0), (1, .int i1), (2, .int i2), (3, .long (lN 0)), (5, .int (i1 >>> ((nI 3) &&& 31)))]) C (by decide) [1, 2, 3, 4, 0] dX7_bitsAt_5 rfl ?_
  exact w
set_option maxRecDepth 20000 in
theorem B_X7_bitsAt_7 {E : zm_E} {K : zm_K} {Post : zm_Po} {nc ns : Nat} (C : zm_Cx E K cX7_bitsAt RX7 1 0 0 0 10) (Rt : zm_Rt E Post 0 0 (some .long)) {a0 : Nat} {i1 : Int32} {i2 : Int32} {l3 : Int64} {i5 : Int32} {h : zm_H} (hnc : nc ≤ 0) (hns : ns ≤ 0) (w : ((i1 + i2) ≤ ((nI 8) * i5) → ((nI 64) ≤ i2 → Post (some (.long l3)) h) ∧ (¬ (nI 64) ≤ i2 → Post (some (.long (l3 &&& (((lN 1) <<< (i2.toInt64 &&& 63)) - (lN 1))))) h)) ∧ (¬ (i1 + i2) ≤ ((nI 8) * i5) → zm_gI h a0 7 1 fun v1 => ((v1 + i5) < 0 → Post (some (.long (lN 0))) h) ∧ (¬ (v1 + i5) < 0 → zm_gR h a0 7 0 fun v2 => zm_al K 0 h v2 fun v3 => ((v1 + i5) < v3 → zm_gR h a0 7 0 fun v4 => zm_ld K 0 h v4 (v1 + i5) fun v5 => (0 ≤ (((nI 8) * i5) - i1) → zm_Go E nc ns 7 [(0, .ref a0), (1, .int i1), (2, .int i2), (3, .long (l3 ||| (((v5 &&& (nI 255)).toInt64) <<< ((((nI 8) * i5) - i1).toInt64 &&& 63)))), (5, .int (i5 + (nI 1)))] [] h) ∧ (¬ 0 ≤ (((nI 8) * i5) - i1) → zm_Go E nc ns 7 [(0, .ref a0), (1, .int i1), (2, .int i2), (3, .long (l3 ||| ((((v5 &&& (nI 255)).toInt64).toUInt64 >>> ((-(((nI 8) * i5) - i1)).toInt64.toUInt64 &&& Int64.toUInt64 63)).toInt64))), (5, .int (i5 + (nI 1)))] [] h)) ∧ (¬ (v1 + i5) < v3 → Post (some (.long (lN 0))) h)))) : zm_Go E nc ns 7 [(0, .ref a0), (1, .int i1), (2, .int i2), (3, .long l3), (5, .int i5)] [] h := by
  refine zm_bipush (v := nI 8) C (by decide) dX7_bitsAt_7 ?_
  refine zm_iload C 4 rfl dX7_bitsAt_9 ?_
  refine zm_imul C dX7_bitsAt_11 ?_
  refine zm_iload_n C rfl 1 rfl dX7_bitsAt_12 ?_
  refine zm_iload_n C rfl 2 rfl dX7_bitsAt_13 ?_
  refine zm_iadd C dX7_bitsAt_14 ?_
  refine zm_icmp_ge (tgt := 95) C dX7_bitsAt_15 (by decide) (fun z => ?_) (fun z => ?_)
  · replace w := w.1 z
    refine zm_iload_n C rfl 2 rfl dX7_bitsAt_95 ?_
    refine zm_bipush (v := nI 64) C (by decide) dX7_bitsAt_96 ?_
    refine zm_icmp_ge (tgt := 111) C dX7_bitsAt_98 (by decide) (fun z => ?_) (fun z => ?_)
    · replace w := w.1 z
      refine zm_lload_n C rfl 3 rfl dX7_bitsAt_111 ?_
      exact zm_lreturn C Rt (by show nc ≤ 0; omega) (by show ns ≤ 0; omega) dX7_bitsAt_112 w
    · replace w := w.2 z
      refine zm_lload_n C rfl 3 rfl dX7_bitsAt_101 ?_
      refine zm_lconst (v := lN 1) C (by decide) dX7_bitsAt_102 ?_
      refine zm_iload_n C rfl 2 rfl dX7_bitsAt_103 ?_
      refine zm_lshl C dX7_bitsAt_104 ?_
      refine zm_lconst (v := lN 1) C (by decide) dX7_bitsAt_105 ?_
      refine zm_lsub C dX7_bitsAt_106 ?_
      refine zm_land C dX7_bitsAt_107 ?_
      refine zm_goto (tgt := 112) C dX7_bitsAt_108 (by decide) ?_
      exact zm_lreturn C Rt (by show nc ≤ 0; omega) (by show ns ≤ 0; omega) dX7_bitsAt_112 w
  · replace w := w.2 z
    refine zm_aload_n C rfl 0 rfl dX7_bitsAt_18 ?_
    refine zm_getI C ff_X7_18 dX7_bitsAt_19 w (fun v1 w => ?_)
    refine zm_iload C 4 rfl dX7_bitsAt_22 ?_
    refine zm_iadd C dX7_bitsAt_24 ?_
    refine zm_istore (L' := [(0, .ref a0), (1, .int i1), (2, .int i2), (3, .long l3), (5, .int i5), (6, .int (v1 + i5))]) C (by decide) [1, 2, 3, 4, 5, 0] dX7_bitsAt_25 rfl ?_
    refine zm_iload C 5 rfl dX7_bitsAt_27 ?_
    refine zm_if_lt (tgt := 42) C dX7_bitsAt_29 (by decide) (fun z => ?_) (fun z => ?_)
    · replace w := w.1 z
      refine zm_lconst (v := lN 0) C (by decide) dX7_bitsAt_42 ?_
      exact zm_lreturn C Rt (by show nc ≤ 0; omega) (by show ns ≤ 0; omega) dX7_bitsAt_43 w
    · replace w := w.2 z
      refine zm_iload C 5 rfl dX7_bitsAt_32 ?_
      refine zm_aload_n C rfl 0 rfl dX7_bitsAt_34 ?_
      refine zm_getR C ff_X7_9 dX7_bitsAt_35 w (fun v2 w => ?_)
      refine zm_lenA (t := 0) C (by decide) dX7_bitsAt_38 w (fun v3 w => ?_)
      refine zm_icmp_lt (tgt := 44) C dX7_bitsAt_39 (by decide) (fun z => ?_) (fun z => ?_)
      · replace w := w.1 z
        refine zm_bipush (v := nI 8) C (by decide) dX7_bitsAt_44 ?_
        refine zm_iload C 4 rfl dX7_bitsAt_46 ?_
        refine zm_imul C dX7_bitsAt_48 ?_
        refine zm_iload_n C rfl 1 rfl dX7_bitsAt_49 ?_
        refine zm_isub C dX7_bitsAt_50 ?_
        refine zm_istore (L' := [(0, .ref a0), (1, .int i1), (2, .int i2), (3, .long l3), (5, .int i5), (6, .int (v1 + i5)), (7, .int (((nI 8) * i5) - i1))]) C (by decide) [1, 2, 3, 4, 5, 6, 0] dX7_bitsAt_51 rfl ?_
        refine zm_aload_n C rfl 0 rfl dX7_bitsAt_53 ?_
        refine zm_getR C ff_X7_9 dX7_bitsAt_54 w (fun v4 w => ?_)
        refine zm_iload C 5 rfl dX7_bitsAt_57 ?_
        refine zm_ldB C dX7_bitsAt_59 w (fun v5 w => ?_)
        refine zm_sipush (v := nI 255) C (by decide) dX7_bitsAt_60 ?_
        refine zm_iand C dX7_bitsAt_63 ?_
        refine zm_i2l C dX7_bitsAt_64 ?_
        refine zm_lstore (L' := [(0, .ref a0), (1, .int i1), (2, .int i2), (3, .long l3), (5, .int i5), (6, .int (v1 + i5)), (7, .int (((nI 8) * i5) - i1)), (8, .long ((v5 &&& (nI 255)).toInt64))]) C (by decide) [1, 2, 3, 4, 5, 6, 7, 0] dX7_bitsAt_65 rfl ?_
        refine zm_lload_n C rfl 3 rfl dX7_bitsAt_67 ?_
        refine zm_iload C 6 rfl dX7_bitsAt_68 ?_
        refine zm_if_ge (tgt := 82) C dX7_bitsAt_70 (by decide) (fun z => ?_) (fun z => ?_)
        · replace w := w.1 z
          refine zm_lload C 7 rfl dX7_bitsAt_82 ?_
          refine zm_iload C 6 rfl dX7_bitsAt_84 ?_
          refine zm_lshl C dX7_bitsAt_86 ?_
          refine zm_lor C dX7_bitsAt_87 ?_
          refine zm_lstore_n (L' := [(0, .ref a0), (1, .int i1), (2, .int i2), (3, .long (l3 ||| (((v5 &&& (nI 255)).toInt64) <<< ((((nI 8) * i5) - i1).toInt64 &&& 63)))), (5, .int i5), (6, .int (v1 + i5)), (7, .int (((nI 8) * i5) - i1)), (8, .long ((v5 &&& (nI 255)).toInt64))]) C rfl (by decide) [1, 2, 3, 0, 4, 5, 6, 7] dX7_bitsAt_88 rfl ?_
          refine zm_iinc (L' := [(0, .ref a0), (1, .int i1), (2, .int i2), (3, .long (l3 ||| (((v5 &&& (nI 255)).toInt64) <<< ((((nI 8) * i5) - i1).toInt64 &&& 63)))), (5, .int (i5 + (nI 1))), (6, .int (v1 + i5)), (7, .int (((nI 8) * i5) - i1)), (8, .long ((v5 &&& (nI 255)).toInt64))]) C (by decide) 4 [1, 2, 3, 4, 0, 5, 6, 7] dX7_bitsAt_89 rfl rfl rfl ?_
          refine zm_goto (tgt := 7) C dX7_bitsAt_92 (by decide) ?_
          exact zm_loc [0, 1, 2, 3, 4] rfl w
        · replace w := w.2 z
          refine zm_lload C 7 rfl dX7_bitsAt_73 ?_
          refine zm_iload C 6 rfl dX7_bitsAt_75 ?_
          refine zm_ineg C dX7_bitsAt_77 ?_
          refine zm_lushr C dX7_bitsAt_78 ?_
          refine zm_goto (tgt := 87) C dX7_bitsAt_79 (by decide) ?_
          refine zm_lor C dX7_bitsAt_87 ?_
          refine zm_lstore_n (L' := [(0, .ref a0), (1, .int i1), (2, .int i2), (3, .long (l3 ||| ((((v5 &&& (nI 255)).toInt64).toUInt64 >>> ((-(((nI 8) * i5) - i1)).toInt64.toUInt64 &&& Int64.toUInt64 63)).toInt64))), (5, .int i5), (6, .int (v1 + i5)), (7, .int (((nI 8) * i5) - i1)), (8, .long ((v5 &&& (nI 255)).toInt64))]) C rfl (by decide) [1, 2, 3, 0, 4, 5, 6, 7] dX7_bitsAt_88 rfl ?_
          refine zm_iinc (L' := [(0, .ref a0), (1, .int i1), (2, .int i2), (3, .long (l3 ||| ((((v5 &&& (nI 255)).toInt64).toUInt64 >>> ((-(((nI 8) * i5) - i1)).toInt64.toUInt64 &&& Int64.toUInt64 63)).toInt64))), (5, .int (i5 + (nI 1))), (6, .int (v1 + i5)), (7, .int (((nI 8) * i5) - i1)), (8, .long ((v5 &&& (nI 255)).toInt64))]) C (by decide) 4 [1, 2, 3, 4, 0, 5, 6, 7] dX7_bitsAt_89 rfl rfl rfl ?_
          refine zm_goto (tgt := 7) C dX7_bitsAt_92 (by decide) ?_
          exact zm_loc [0, 1, 2, 3, 4] rfl w
      · replace w := w.2 z
        refine zm_lconst (v := lN 0) C (by decide) dX7_bitsAt_42 ?_
        exact zm_lreturn C Rt (by show nc ≤ 0; omega) (by show ns ≤ 0; omega) dX7_bitsAt_43 w
set_option maxRecDepth 20000 in
theorem B_X7_expectEnd_0 {E : zm_E} {K : zm_K} {Post : zm_Po} {nc ns : Nat} (C : zm_Cx E K cX7_expectEnd RX7 2 21 0 0 1) (Rt : zm_Rt E Post 0 0 none) {a0 : Nat} {h : zm_H} (hnc : nc ≤ 0) (hns : ns ≤ 0) (w : zm_gI h a0 7 1 fun v1 => zm_gI h a0 7 2 fun v2 => (v2 ≤ v1 → Post none h) ∧ (¬ v2 ≤ v1 → zm_rc h a0 7 ∧ zm_cv K M_X7_fail [.ref a0, .int (nI 6)] h fun h1 => Post none h1)) : zm_Go E nc ns 0 [(0, .ref a0)] [] h := by
  refine zm_aload_n C rfl 0 rfl dX7_expectEnd_0 ?_
  refine zm_getI C ff_X7_18 dX7_expectEnd_1 w (fun v1 w => ?_)
  refine zm_aload_n C rfl 0 rfl dX7_expectEnd_4 ?_
  refine zm_getI C ff_X7_25 dX7_expectEnd_5 w (fun v2 w => ?_)
  refine zm_icmp_ge (tgt := 17) C dX7_expectEnd_8 (by decide) (fun z => ?_) (fun z => ?_)
  · replace w := w.1 z
    exact zm_return C Rt (by show nc ≤ 0; omega) (by show ns ≤ 0; omega) dX7_expectEnd_17 w
  · replace w := w.2 z
    refine zm_aload_n C rfl 0 rfl dX7_expectEnd_11 ?_
    refine zm_bipush (v := nI 6) C (by decide) dX7_expectEnd_12 ?_
    obtain ⟨wr, w⟩ := w
    refine zm_Vv (As := [.int (nI 6)]) (rest := []) C M_X7_fail sv_X7_31 rfl dX7_expectEnd_14 rfl (Nat.le_of_ble_eq_true rfl) (by decide) (by decide) (by show nc + 0 ≤ 0; omega) (by show ns + 0 ≤ 0; omega) wr w (fun h1 w => ?_)
    exact zm_return C Rt (by show nc ≤ 0; omega) (by show ns ≤ 0; omega) dX7_expectEnd_17 w
set_option maxRecDepth 20000 in
theorem B_X8_init_0 {E : zm_E} {K : zm_K} {Post : zm_Po} {nc ns : Nat} (C : zm_Cx E K cX8_init RX8 3 70 31 148098 4) (Rt : zm_Rt E Post 31 148098 none) (hin : zm_in E) {a0 : Nat} {h : zm_H} (hnc : nc + 1 + 1 + 1 + 1 + 1 + 1 + 1 + 2 + 1 + 2 + 1 + 2 + 1 + 2 + 1 + 1 + 1 + 5 + 1 + 4 ≤ 31) (hns : ns + 2 + 24000 + 2 + 24000 + 2 + 24000 + 3 + 21001 + 3 + 21001 + 3 + 2004 + 3 + 2004 + 2 + 1000 + 5 + 27053 + 6 + 2004 ≤ 148098) (w : ∀ v1, h v1 = none → zm_cv K M_X0_init [.ref v1, .int (nI 24000)] (zm_set h v1 (.inr (0, [.null, .int 0]))) fun h1 => zm_pf h1 a0 8 0 (.ref v1) fun h2 => ∀ v2, h2 v2 = none → zm_cv K M_X0_init [.ref v2, .int (nI 24000)] (zm_set h2 v2 (.inr (0, [.null, .int 0]))) fun h3 => zm_pf h3 a0 8 3 (.ref v2) fun h4 => ∀ v3, h4 v3 = none → zm_cv K M_X0_init [.ref v3, .int (nI 24000)] (zm_set h4 v3 (.inr (0, [.null, .int 0]))) fun h5 => zm_pf h5 a0 8 4 (.ref v3) fun h6 => ∀ v4, h6 v4 = none → zm_cv K M_X5_init [.ref v4] (zm_set h6 v4 (.inr (5, [.null, .null, .int 0]))) fun h7 => zm_pf h7 a0 8 5 (.ref v4) fun h8 => ∀ v5, h8 v5 = none → zm_cv K M_X5_init [.ref v5] (zm_set h8 v5 (.inr (5, [.null, .null, .int 0]))) fun h9 => zm_pf h9 a0 8 6 (.ref v5) fun h10 => ∀ v6, h10 v6 = none → zm_cv K M_X1_init [.ref v6] (zm_set h10 v6 (.inr (1, [.null, .null, .int 0]))) fun h11 => ∀ v7, h11 v7 = none → zm_cv K M_X1_init [.ref v7] (zm_set h11 v7 (.inr (1, [.null, .null, .int 0]))) fun h12 => ∀ v8, h12 v8 = none → zm_cv K M_X6_init [.ref v8] (zm_set h12 v8 (.inr (6, [.null, .int 0]))) fun h13 => ∀ v9, h13 v9 = none → zm_cv K M_X3_init [.ref v9, .ref v6, .ref v7, .ref v8] (zm_set h13 v9 (.inr (3, [.null, .null, .null, .null, .null]))) fun h14 => zm_pf h14 a0 8 1 (.ref v9) fun h15 => ∀ v10, h15 v10 = none → zm_cv K M_X2_init [.ref v10, .ref v6, .ref v7, .ref v8] (zm_set h15 v10 (.inr (2, [.null, .null, .null, .null, .null, .null]))) fun h16 => zm_pf h16 a0 8 2 (.ref v10) fun h17 => Post none h17) : zm_Go E nc ns 0 [(0, .ref a0)] [] h := by
  refine zm_aload_n C rfl 0 rfl dX8_init_0 ?_
  refine zm_objInit C (zm_inG (by decide +kernel) rfl) (zm_inG (by decide +kernel) rfl) zi_objInit (by decide) (by decide) (Nat.le_of_ble_eq_true rfl) dX8_init_1 ?_
  refine zm_aload_n C rfl 0 rfl dX8_init_4 ?_
  refine zm_newo C fn_X8_7 dX8_init_5 (by show nc + 1 ≤ 31; omega) (by show ns + 2 ≤ 148098; omega) (fun v1 hq => ?_)
  replace w := w v1 hq
  refine zm_dup C rfl dX8_init_8 ?_
  refine zm_sipush (v := nI 24000) C (by decide) dX8_init_9 ?_
  refine zm_Iv (As := [.int (nI 24000)]) (rest := [.ref v1, .ref a0]) C M_X0_init si_X8_11 rfl dX8_init_12 rfl (Nat.le_of_ble_eq_true rfl) (by decide) (by decide) (by show nc + 1 + 1 ≤ 31; omega) (by show ns + 2 + 24000 ≤ 148098; omega) w (fun h1 w => ?_)
  refine zm_putQ C hin ff_X8_14 ft_X8 fp_X8_8_0 rfl rfl dX8_init_15 w (fun h2 w => ?_)
  refine zm_aload_n C rfl 0 rfl dX8_init_18 ?_
  refine zm_newo C fn_X8_7 dX8_init_19 (by show nc + 1 + 1 + 1 ≤ 31; omega) (by show ns + 2 + 24000 + 2 ≤ 148098; omega) (fun v2 hq => ?_)
  replace w := w v2 hq
  refine zm_dup C rfl dX8_init_22 ?_
  refine zm_sipush (v := nI 24000) C (by decide) dX8_init_23 ?_
  refine zm_Iv (As := [.int (nI 24000)]) (rest := [.ref v2, .ref a0]) C M_X0_init si_X8_11 rfl dX8_init_26 rfl (Nat.le_of_ble_eq_true rfl) (by decide) (by decide) (by show nc + 1 + 1 + 1 + 1 ≤ 31; omega) (by show ns + 2 + 24000 + 2 + 24000 ≤ 148098; omega) w (fun h3 w => ?_)
  refine zm_put C ff_X8_18 ft_X8 fp_X8_8_3 rfl rfl dX8_init_29 w (fun h4 w => ?_)
  refine zm_aload_n C rfl 0 rfl dX8_init_32 ?_
  refine zm_newo C fn_X8_7 dX8_init_33 (by show nc + 1 + 1 + 1 + 1 + 1 ≤ 31; omega) (by show ns + 2 + 24000 + 2 + 24000 + 2 ≤ 148098; omega) (fun v3 hq => ?_)
  replace w := w v3 hq
  refine zm_dup C rfl dX8_init_36 ?_
  refine zm_sipush (v := nI 24000) C (by decide) dX8_init_37 ?_
  refine zm_Iv (As := [.int (nI 24000)]) (rest := [.ref v3, .ref a0]) C M_X0_init si_X8_11 rfl dX8_init_40 rfl (Nat.le_of_ble_eq_true rfl) (by decide) (by decide) (by show nc + 1 + 1 + 1 + 1 + 1 + 1 ≤ 31; omega) (by show ns + 2 + 24000 + 2 + 24000 + 2 + 24000 ≤ 148098; omega) w (fun h5 w => ?_)
  refine zm_put C ff_X8_21 ft_X8 fp_X8_8_4 rfl rfl dX8_init_43 w (fun h6 w => ?_)
  refine zm_aload_n C rfl 0 rfl dX8_init_46 ?_
  refine zm_newo C fn_X8_24 dX8_init_47 (by show nc + 1 + 1 + 1 + 1 + 1 + 1 + 1 ≤ 31; omega) (by show ns + 2 + 24000 + 2 + 24000 + 2 + 24000 + 3 ≤ 148098; omega) (fun v4 hq => ?_)
  replace w := w v4 hq
  refine zm_dup C rfl dX8_init_50 ?_
  refine zm_Nv (As := []) (rest := [.ref v4, .ref a0]) C M_X5_init sn_X8_26 rfl dX8_init_51 rfl (Nat.le_of_ble_eq_true rfl) (by decide) (by decide) (by show nc + 1 + 1 + 1 + 1 + 1 + 1 + 1 + 2 ≤ 31; omega) (by show ns + 2 + 24000 + 2 + 24000 + 2 + 24000 + 3 + 21001 ≤ 148098; omega) w (fun h7 w => ?_)
  refine zm_put C ff_X8_27 ft_X8 fp_X8_8_5 rfl rfl dX8_init_54 w (fun h8 w => ?_)
  refine zm_aload_n C rfl 0 rfl dX8_init_57 ?_
  refine zm_newo C fn_X8_24 dX8_init_58 (by show nc + 1 + 1 + 1 + 1 + 1 + 1 + 1 + 2 + 1 ≤ 31; omega) (by show ns + 2 + 24000 + 2 + 24000 + 2 + 24000 + 3 + 21001 + 3 ≤ 148098; omega) (fun v5 hq => ?_)
  replace w := w v5 hq
  refine zm_dup C rfl dX8_init_61 ?_
  refine zm_Nv (As := []) (rest := [.ref v5, .ref a0]) C M_X5_init sn_X8_26 rfl dX8_init_62 rfl (Nat.le_of_ble_eq_true rfl) (by decide) (by decide) (by show nc + 1 + 1 + 1 + 1 + 1 + 1 + 1 + 2 + 1 + 2 ≤ 31; omega) (by show ns + 2 + 24000 + 2 + 24000 + 2 + 24000 + 3 + 21001 + 3 + 21001 ≤ 148098; omega) w (fun h9 w => ?_)
  refine zm_put C ff_X8_31 ft_X8 fp_X8_8_6 rfl rfl dX8_init_65 w (fun h10 w => ?_)
  refine zm_newo C fn_X8_34 dX8_init_68 (by show nc + 1 + 1 + 1 + 1 + 1 + 1 + 1 + 2 + 1 + 2 + 1 ≤ 31; omega) (by show ns + 2 + 24000 + 2 + 24000 + 2 + 24000 + 3 + 21001 + 3 + 21001 + 3 ≤ 148098; omega) (fun v6 hq => ?_)
  replace w := w v6 hq
  refine zm_dup C rfl dX8_init_71 ?_
  refine zm_Nv (As := []) (rest := [.ref v6]) C M_X1_init sn_X8_36 rfl dX8_init_72 rfl (Nat.le_of_ble_eq_true rfl) (by decide) (by decide) (by show nc + 1 + 1 + 1 + 1 + 1 + 1 + 1 + 2 + 1 + 2 + 1 + 2 ≤ 31; omega) (by show ns + 2 + 24000 + 2 + 24000 + 2 + 24000 + 3 + 21001 + 3 + 21001 + 3 + 2004 ≤ 148098; omega) w (fun h11 w => ?_)
  refine zm_astore_n (L' := [(0, .ref a0), (1, .ref v6)]) C rfl (by decide) [1, 0] dX8_init_75 rfl ?_
  refine zm_newo C fn_X8_34 dX8_init_76 (by show nc + 1 + 1 + 1 + 1 + 1 + 1 + 1 + 2 + 1 + 2 + 1 + 2 + 1 ≤ 31; omega) (by show ns + 2 + 24000 + 2 + 24000 + 2 + 24000 + 3 + 21001 + 3 + 21001 + 3 + 2004 + 3 ≤ 148098; omega) (fun v7 hq => ?_)
  replace w := w v7 hq
  refine zm_dup C rfl dX8_init_79 ?_
  refine zm_Nv (As := []) (rest := [.ref v7]) C M_X1_init sn_X8_36 rfl dX8_init_80 rfl (Nat.le_of_ble_eq_true rfl) (by decide) (by decide) (by show nc + 1 + 1 + 1 + 1 + 1 + 1 + 1 + 2 + 1 + 2 + 1 + 2 + 1 + 2 ≤ 31; omega) (by show ns + 2 + 24000 + 2 + 24000 + 2 + 24000 + 3 + 21001 + 3 + 21001 + 3 + 2004 + 3 + 2004 ≤ 148098; omega) w (fun h12 w => ?_)
  refine zm_astore_n (L' := [(0, .ref a0), (1, .ref v6), (2, .ref v7)]) C rfl (by decide) [1, 2, 0] dX8_init_83 rfl ?_
  refine zm_newo C fn_X8_37 dX8_init_84 (by show nc + 1 + 1 + 1 + 1 + 1 + 1 + 1 + 2 + 1 + 2 + 1 + 2 + 1 + 2 + 1 ≤ 31; omega) (by show ns + 2 + 24000 + 2 + 24000 + 2 + 24000 + 3 + 21001 + 3 + 21001 + 3 + 2004 + 3 + 2004 + 2 ≤ 148098; omega) (fun v8 hq => ?_)
  replace w := w v8 hq
  refine zm_dup C rfl dX8_init_87 ?_
  refine zm_Nv (As := []) (rest := [.ref v8]) C M_X6_init sn_X8_39 rfl dX8_init_88 rfl (Nat.le_of_ble_eq_true rfl) (by decide) (by decide) (by show nc + 1 + 1 + 1 + 1 + 1 + 1 + 1 + 2 + 1 + 2 + 1 + 2 + 1 + 2 + 1 + 1 ≤ 31; omega) (by show ns + 2 + 24000 + 2 + 24000 + 2 + 24000 + 3 + 21001 + 3 + 21001 + 3 + 2004 + 3 + 2004 + 2 + 1000 ≤ 148098; omega) w (fun h13 w => ?_)
  refine zm_astore_n (L' := [(0, .ref a0), (1, .ref v6), (2, .ref v7), (3, .ref v8)]) C rfl (by decide) [1, 2, 3, 0] dX8_init_91 rfl ?_
  refine zm_aload_n C rfl 0 rfl dX8_init_92 ?_
  refine zm_newo C fn_X8_40 dX8_init_93 (by show nc + 1 + 1 + 1 + 1 + 1 + 1 + 1 + 2 + 1 + 2 + 1 + 2 + 1 + 2 + 1 + 1 + 1 ≤ 31; omega) (by show ns + 2 + 24000 + 2 + 24000 + 2 + 24000 + 3 + 21001 + 3 + 21001 + 3 + 2004 + 3 + 2004 + 2 + 1000 + 5 ≤ 148098; omega) (fun v9 hq => ?_)
  replace w := w v9 hq
  refine zm_dup C rfl dX8_init_96 ?_
  refine zm_aload_n C rfl 1 rfl dX8_init_97 ?_
  refine zm_aload_n C rfl 2 rfl dX8_init_98 ?_
  refine zm_aload_n C rfl 3 rfl dX8_init_99 ?_
  refine zm_Iv (As := [.ref v6, .ref v7, .ref v8]) (rest := [.ref v9, .ref a0]) C M_X3_init si_X8_42 rfl dX8_init_100 rfl (Nat.le_of_ble_eq_true rfl) (by decide) (by decide) (by show nc + 1 + 1 + 1 + 1 + 1 + 1 + 1 + 2 + 1 + 2 + 1 + 2 + 1 + 2 + 1 + 1 + 1 + 5 ≤ 31; omega) (by show ns + 2 + 24000 + 2 + 24000 + 2 + 24000 + 3 + 21001 + 3 + 21001 + 3 + 2004 + 3 + 2004 + 2 + 1000 + 5 + 27053 ≤ 148098; omega) w (fun h14 w => ?_)
  refine zm_putQ C hin ff_X8_45 ft_X8 fp_X8_8_1 rfl rfl dX8_init_103 w (fun h15 w => ?_)
  refine zm_aload_n C rfl 0 rfl dX8_init_106 ?_
  refine zm_newo C fn_X8_49 dX8_init_107 (by show nc + 1 + 1 + 1 + 1 + 1 + 1 + 1 + 2 + 1 + 2 + 1 + 2 + 1 + 2 + 1 + 1 + 1 + 5 + 1 ≤ 31; omega) (by show ns + 2 + 24000 + 2 + 24000 + 2 + 24000 + 3 + 21001 + 3 + 21001 + 3 + 2004 + 3 + 2004 + 2 + 1000 + 5 + 27053 + 6 ≤ 148098; omega) (fun v10 hq => ?_)
  replace w := w v10 hq
  refine zm_dup C rfl dX8_init_110 ?_
  refine zm_aload_n C rfl 1 rfl dX8_init_111 ?_
  refine zm_aload_n C rfl 2 rfl dX8_init_112 ?_
  refine zm_aload_n C rfl 3 rfl dX8_init_113 ?_
  refine zm_Iv (As := [.ref v6, .ref v7, .ref v8]) (rest := [.ref v10, .ref a0]) C M_X2_init si_X8_51 rfl dX8_init_114 rfl (Nat.le_of_ble_eq_true rfl) (by decide) (by decide) (by show nc + 1 + 1 + 1 + 1 + 1 + 1 + 1 + 2 + 1 + 2 + 1 + 2 + 1 + 2 + 1 + 1 + 1 + 5 + 1 + 4 ≤ 31; omega) (by show ns + 2 + 24000 + 2 + 24000 + 2 + 24000 + 3 + 21001 + 3 + 21001 + 3 + 2004 + 3 + 2004 + 2 + 1000 + 5 + 27053 + 6 + 2004 ≤ 148098; omega) w (fun h16 w => ?_)
  refine zm_putQ C hin ff_X8_52 ft_X8 fp_X8_8_2 rfl rfl dX8_init_117 w (fun h17 w => ?_)
  exact zm_return C Rt (by show nc + 1 + 1 + 1 + 1 + 1 + 1 + 1 + 2 + 1 + 2 + 1 + 2 + 1 + 2 + 1 + 1 + 1 + 5 + 1 + 4 ≤ 31; omega) (by show ns + 2 + 24000 + 2 + 24000 + 2 + 24000 + 3 + 21001 + 3 + 21001 + 3 + 2004 + 3 + 2004 + 2 + 1000 + 5 + 27053 + 6 + 2004 ≤ 148098; omega) dX8_init_120 w
set_option maxRecDepth 20000 in
theorem B_X8_feed_0 {E : zm_E} {K : zm_K} {Post : zm_Po} {nc ns : Nat} (C : zm_Cx E K cX8_feed RX8 3 42 0 0 6) (Rt : zm_Rt E Post 0 0 (some .boolean)) {a0 : Nat} {i1 : Int32} {i2 : Int32} {i3 : Int32} {i4 : Int32} {i5 : Int32} {h : zm_H} (hnc : nc ≤ 0) (hns : ns ≤ 0) (w : zm_gR h a0 8 3 fun v1 => zm_gI h v1 0 1 fun v2 => ((nI 20) ≤ ((nI 24000) - v2) → zm_gR h a0 8 3 fun v3 => zm_rc h v3 0 ∧ zm_cv K M_X0_putInt [.ref v3, .int i1] h fun h1 => zm_gR h1 a0 8 3 fun v4 => zm_rc h1 v4 0 ∧ zm_cv K M_X0_putInt [.ref v4, .int i2] h1 fun h2 => zm_gR h2 a0 8 3 fun v5 => zm_rc h2 v5 0 ∧ zm_cv K M_X0_putInt [.ref v5, .int i3] h2 fun h3 => zm_gR h3 a0 8 3 fun v6 => zm_rc h3 v6 0 ∧ zm_cv K M_X0_putInt [.ref v6, .int i4] h3 fun h4 => zm_gR h4 a0 8 3 fun v7 => zm_rc h4 v7 0 ∧ zm_cv K M_X0_putInt [.ref v7, .int i5] h4 fun h5 => narrow .boolean (.int (nI 1)) = .int (nI 1) ∧ Post (some (.int (nI 1))) h5) ∧ (¬ (nI 20) ≤ ((nI 24000) - v2) → narrow .boolean (.int (nI 0)) = .int (nI 0) ∧ Post (some (.int (nI 0))) h)) : zm_Go E nc ns 0 [(0, .ref a0), (1, .int i1), (2, .int i2), (3, .int i3), (4, .int i4), (5, .int i5)] [] h := by
  refine zm_bipush (v := nI 20) C (by decide) dX8_feed_0 ?_
  refine zm_sipush (v := nI 24000) C (by decide) dX8_feed_2 ?_
  refine zm_aload_n C rfl 0 rfl dX8_feed_5 ?_
  refine zm_getR C ff_X8_18 dX8_feed_6 w (fun v1 w => ?_)
  refine zm_getI C ff_X8_56 dX8_feed_9 w (fun v2 w => ?_)
  refine zm_isub C dX8_feed_12 ?_
  refine zm_icmp_le (tgt := 18) C dX8_feed_13 (by decide) (fun z => ?_) (fun z => ?_)
  · replace w := w.1 z
    refine zm_aload_n C rfl 0 rfl dX8_feed_18 ?_
    refine zm_getR C ff_X8_18 dX8_feed_19 w (fun v3 w => ?_)
    refine zm_iload_n C rfl 1 rfl dX8_feed_22 ?_
    obtain ⟨wr, w⟩ := w
    refine zm_Vv (As := [.int i1]) (rest := []) C M_X0_putInt sv_X8_60 rfl dX8_feed_23 rfl (Nat.le_of_ble_eq_true rfl) (by decide) (by decide) (by show nc + 0 ≤ 0; omega) (by show ns + 0 ≤ 0; omega) wr w (fun h1 w => ?_)
    refine zm_aload_n C rfl 0 rfl dX8_feed_26 ?_
    refine zm_getR C ff_X8_18 dX8_feed_27 w (fun v4 w => ?_)
    refine zm_iload_n C rfl 2 rfl dX8_feed_30 ?_
    obtain ⟨wr, w⟩ := w
    refine zm_Vv (As := [.int i2]) (rest := []) C M_X0_putInt sv_X8_60 rfl dX8_feed_31 rfl (Nat.le_of_ble_eq_true rfl) (by decide) (by decide) (by show nc + 0 ≤ 0; omega) (by show ns + 0 ≤ 0; omega) wr w (fun h2 w => ?_)
    refine zm_aload_n C rfl 0 rfl dX8_feed_34 ?_
    refine zm_getR C ff_X8_18 dX8_feed_35 w (fun v5 w => ?_)
    refine zm_iload_n C rfl 3 rfl dX8_feed_38 ?_
    obtain ⟨wr, w⟩ := w
    refine zm_Vv (As := [.int i3]) (rest := []) C M_X0_putInt sv_X8_60 rfl dX8_feed_39 rfl (Nat.le_of_ble_eq_true rfl) (by decide) (by decide) (by show nc + 0 ≤ 0; omega) (by show ns + 0 ≤ 0; omega) wr w (fun h3 w => ?_)
    refine zm_aload_n C rfl 0 rfl dX8_feed_42 ?_
    refine zm_getR C ff_X8_18 dX8_feed_43 w (fun v6 w => ?_)
    refine zm_iload C 4 rfl dX8_feed_46 ?_
    obtain ⟨wr, w⟩ := w
    refine zm_Vv (As := [.int i4]) (rest := []) C M_X0_putInt sv_X8_60 rfl dX8_feed_48 rfl (Nat.le_of_ble_eq_true rfl) (by decide) (by decide) (by show nc + 0 ≤ 0; omega) (by show ns + 0 ≤ 0; omega) wr w (fun h4 w => ?_)
    refine zm_aload_n C rfl 0 rfl dX8_feed_51 ?_
    refine zm_getR C ff_X8_18 dX8_feed_52 w (fun v7 w => ?_)
    refine zm_iload C 5 rfl dX8_feed_55 ?_
    obtain ⟨wr, w⟩ := w
    refine zm_Vv (As := [.int i5]) (rest := []) C M_X0_putInt sv_X8_60 rfl dX8_feed_57 rfl (Nat.le_of_ble_eq_true rfl) (by decide) (by decide) (by show nc + 0 ≤ 0; omega) (by show ns + 0 ≤ 0; omega) wr w (fun h5 w => ?_)
    refine zm_iconst (v := nI 1) C (by decide) dX8_feed_60 ?_
    exact zm_ireturn C Rt (by show nc ≤ 0; omega) (by show ns ≤ 0; omega) w.1 dX8_feed_61 w.2
  · replace w := w.2 z
    refine zm_iconst (v := nI 0) C (by decide) dX8_feed_16 ?_
    exact zm_ireturn C Rt (by show nc ≤ 0; omega) (by show ns ≤ 0; omega) w.1 dX8_feed_17 w.2
set_option maxRecDepth 20000 in
theorem B_X8_end_0 {E : zm_E} {K : zm_K} {Post : zm_Po} {nc ns : Nat} (C : zm_Cx E K cX8_end RX8 1 0 0 0 3) (Rt : zm_Rt E Post 0 0 (some .boolean)) {a0 : Nat} {i1 : Int32} {h : zm_H} (hnc : nc ≤ 0) (hns : ns ≤ 0) (w : (i1 < 0 → narrow .boolean (.int (nI 0)) = .int (nI 0) ∧ Post (some (.int (nI 0))) h) ∧ (¬ i1 < 0 → zm_gR h a0 8 3 fun v1 => zm_gI h v1 0 1 fun v2 => (i1 ≤ v2 → zm_gR h a0 8 3 fun v3 => zm_gR h a0 8 4 fun v4 => zm_pf h a0 8 3 (.ref v4) fun h1 => zm_pf h1 a0 8 4 (.ref v3) fun h2 => zm_gR h2 a0 8 4 fun v5 => zm_pf h2 v5 0 1 (.int i1) fun h3 => zm_gR h3 a0 8 3 fun v6 => zm_pf h3 v6 0 1 (.int (nI 0)) fun h4 => narrow .boolean (.int (nI 1)) = .int (nI 1) ∧ Post (some (.int (nI 1))) h4) ∧ (¬ i1 ≤ v2 → narrow .boolean (.int (nI 0)) = .int (nI 0) ∧ Post (some (.int (nI 0))) h))) : zm_Go E nc ns 0 [(0, .ref a0), (1, .int i1)] [] h := by
  refine zm_iload_n C rfl 1 rfl dX8_end_0 ?_
  refine zm_if_lt (tgt := 15) C dX8_end_1 (by decide) (fun z => ?_) (fun z => ?_)
  · replace w := w.1 z
    refine zm_iconst (v := nI 0) C (by decide) dX8_end_15 ?_
    exact zm_ireturn C Rt (by show nc ≤ 0; omega) (by show ns ≤ 0; omega) w.1 dX8_end_16 w.2
  · replace w := w.2 z
    refine zm_iload_n C rfl 1 rfl dX8_end_4 ?_
    refine zm_aload_n C rfl 0 rfl dX8_end_5 ?_
    refine zm_getR C ff_X8_18 dX8_end_6 w (fun v1 w => ?_)
    refine zm_getI C ff_X8_56 dX8_end_9 w (fun v2 w => ?_)
    refine zm_icmp_le (tgt := 17) C dX8_end_12 (by decide) (fun z => ?_) (fun z => ?_)
    · replace w := w.1 z
      refine zm_aload_n C rfl 0 rfl dX8_end_17 ?_
      refine zm_getR C ff_X8_18 dX8_end_18 w (fun v3 w => ?_)
      refine zm_astore_n (L' := [(0, .ref a0), (1, .int i1), (2, .ref v3)]) C rfl (by decide) [1, 2, 0] dX8_end_21 rfl ?_
      refine zm_aload_n C rfl 0 rfl dX8_end_22 ?_
      refine zm_aload_n C rfl 0 rfl dX8_end_23 ?_
      refine zm_getR C ff_X8_21 dX8_end_24 w (fun v4 w => ?_)
      refine zm_put C ff_X8_18 ft_X8 fp_X8_8_3 rfl rfl dX8_end_27 w (fun h1 w => ?_)
      refine zm_aload_n C rfl 0 rfl dX8_end_30 ?_
      refine zm_aload_n C rfl 2 rfl dX8_end_31 ?_
      refine zm_put C ff_X8_21 ft_X8 fp_X8_8_4 rfl rfl dX8_end_32 w (fun h2 w => ?_)
      refine zm_aload_n C rfl 0 rfl dX8_end_35 ?_
      refine zm_getR C ff_X8_21 dX8_end_36 w (fun v5 w => ?_)
      refine zm_iload_n C rfl 1 rfl dX8_end_39 ?_
      refine zm_put C ff_X8_56 ft_X0 fp_X8_0_1 rfl rfl dX8_end_40 w (fun h3 w => ?_)
      refine zm_aload_n C rfl 0 rfl dX8_end_43 ?_
      refine zm_getR C ff_X8_18 dX8_end_44 w (fun v6 w => ?_)
      refine zm_iconst (v := nI 0) C (by decide) dX8_end_47 ?_
      refine zm_put C ff_X8_56 ft_X0 fp_X8_0_1 rfl rfl dX8_end_48 w (fun h4 w => ?_)
      refine zm_iconst (v := nI 1) C (by decide) dX8_end_51 ?_
      exact zm_ireturn C Rt (by show nc ≤ 0; omega) (by show ns ≤ 0; omega) w.1 dX8_end_52 w.2
    · replace w := w.2 z
      refine zm_iconst (v := nI 0) C (by decide) dX8_end_15 ?_
      exact zm_ireturn C Rt (by show nc ≤ 0; omega) (by show ns ≤ 0; omega) w.1 dX8_end_16 w.2
set_option maxRecDepth 20000 in
theorem B_X8_add_0 {E : zm_E} {K : zm_K} {Post : zm_Po} {nc ns : Nat} (C : zm_Cx E K cX8_add RX8 4 67 0 0 3) (Rt : zm_Rt E Post 0 0 (some .boolean)) {a0 : Nat} {i1 : Int32} {h : zm_H} (hnc : nc ≤ 0) (hns : ns ≤ 0) (w : (i1 < (nI 1) → narrow .boolean (.int (nI 0)) = .int (nI 0) ∧ Post (some (.int (nI 0))) h) ∧ (¬ i1 < (nI 1) → zm_gR h a0 8 5 fun v1 => zm_gI h v1 5 2 fun v2 => (((nI 1000) - v2) < i1 → narrow .boolean (.int (nI 0)) = .int (nI 0) ∧ Post (some (.int (nI 0))) h) ∧ (¬ ((nI 1000) - v2) < i1 → zm_gR h a0 8 4 fun v3 => zm_gI h v3 0 1 fun v4 => (v4 ≤ (nI 255) → zm_gR h a0 8 4 fun v5 => zm_gI h v5 0 1 fun v6 => zm_gR h a0 8 5 fun v7 => zm_rc h v7 5 ∧ zm_ci K M_X5_total [.ref v7] h fun v8 h1 => ((i1 * v6) ≤ ((nI 20000) - v8) → zm_Go E nc ns 62 [(0, .ref a0), (1, .int i1), (2, .int (nI 0))] [] h1) ∧ (¬ (i1 * v6) ≤ ((nI 20000) - v8) → narrow .boolean (.int (nI 0)) = .int (nI 0) ∧ Post (some (.int (nI 0))) h1)) ∧ (¬ v4 ≤ (nI 255) → narrow .boolean (.int (nI 0)) = .int (nI 0) ∧ Post (some (.int (nI 0))) h)))) : zm_Go E nc ns 0 [(0, .ref a0), (1, .int i1)] [] h := by
  refine zm_iload_n C rfl 1 rfl dX8_add_0 ?_
  refine zm_iconst (v := nI 1) C (by decide) dX8_add_1 ?_
  refine zm_icmp_lt (tgt := 33) C dX8_add_2 (by decide) (fun z => ?_) (fun z => ?_)
  · replace w := w.1 z
    refine zm_iconst (v := nI 0) C (by decide) dX8_add_33 ?_
    exact zm_ireturn C Rt (by show nc ≤ 0; omega) (by show ns ≤ 0; omega) w.1 dX8_add_34 w.2
  · replace w := w.2 z
    refine zm_iload_n C rfl 1 rfl dX8_add_5 ?_
    refine zm_sipush (v := nI 1000) C (by decide) dX8_add_6 ?_
    refine zm_aload_n C rfl 0 rfl dX8_add_9 ?_
    refine zm_getR C ff_X8_27 dX8_add_10 w (fun v1 w => ?_)
    refine zm_getI C ff_X8_63 dX8_add_13 w (fun v2 w => ?_)
    refine zm_isub C dX8_add_16 ?_
    refine zm_icmp_gt (tgt := 33) C dX8_add_17 (by decide) (fun z => ?_) (fun z => ?_)
    · replace w := w.1 z
      refine zm_iconst (v := nI 0) C (by decide) dX8_add_33 ?_
      exact zm_ireturn C Rt (by show nc ≤ 0; omega) (by show ns ≤ 0; omega) w.1 dX8_add_34 w.2
    · replace w := w.2 z
      refine zm_aload_n C rfl 0 rfl dX8_add_20 ?_
      refine zm_getR C ff_X8_21 dX8_add_21 w (fun v3 w => ?_)
      refine zm_getI C ff_X8_56 dX8_add_24 w (fun v4 w => ?_)
      refine zm_sipush (v := nI 255) C (by decide) dX8_add_27 ?_
      refine zm_icmp_le (tgt := 35) C dX8_add_30 (by decide) (fun z => ?_) (fun z => ?_)
      · replace w := w.1 z
        refine zm_iload_n C rfl 1 rfl dX8_add_35 ?_
        refine zm_aload_n C rfl 0 rfl dX8_add_36 ?_
        refine zm_getR C ff_X8_21 dX8_add_37 w (fun v5 w => ?_)
        refine zm_getI C ff_X8_56 dX8_add_40 w (fun v6 w => ?_)
        refine zm_imul C dX8_add_43 ?_
        refine zm_sipush (v := nI 20000) C (by decide) dX8_add_44 ?_
        refine zm_aload_n C rfl 0 rfl dX8_add_47 ?_
        refine zm_getR C ff_X8_27 dX8_add_48 w (fun v7 w => ?_)
        obtain ⟨wr, w⟩ := w
        refine zm_Vi (As := []) (rest := [.int (nI 20000), .int (i1 * v6)]) C M_X5_total sv_X8_66 rfl dX8_add_51 rfl (Nat.le_of_ble_eq_true rfl) (by decide) (by decide) (by show nc + 0 ≤ 0; omega) (by show ns + 0 ≤ 0; omega) wr w (fun v8 h1 w => ?_)
        refine zm_isub C dX8_add_54 ?_
        refine zm_icmp_le (tgt := 60) C dX8_add_55 (by decide) (fun z => ?_) (fun z => ?_)
        · replace w := w.1 z
          refine zm_iconst (v := nI 0) C (by decide) dX8_add_60 ?_
          refine zm_istore_n (L' := [(0, .ref a0), (1, .int i1), (2, .int (nI 0))]) C rfl (by decide) [1, 2, 0] dX8_add_61 rfl ?_
          exact w
        · replace w := w.2 z
          refine zm_iconst (v := nI 0) C (by decide) dX8_add_58 ?_
          exact zm_ireturn C Rt (by show nc ≤ 0; omega) (by show ns ≤ 0; omega) w.1 dX8_add_59 w.2
      · replace w := w.2 z
        refine zm_iconst (v := nI 0) C (by decide) dX8_add_33 ?_
        exact zm_ireturn C Rt (by show nc ≤ 0; omega) (by show ns ≤ 0; omega) w.1 dX8_add_34 w.2
set_option maxRecDepth 20000 in
theorem B_X8_add_62 {E : zm_E} {K : zm_K} {Post : zm_Po} {nc ns : Nat} (C : zm_Cx E K cX8_add RX8 4 67 0 0 3) (Rt : zm_Rt E Post 0 0 (some .boolean)) {a0 : Nat} {i1 : Int32} {i2 : Int32} {h : zm_H} (hnc : nc ≤ 0) (hns : ns ≤ 0) (w : (i1 ≤ i2 → narrow .boolean (.int (nI 1)) = .int (nI 1) ∧ Post (some (.int (nI 1))) h) ∧ (¬ i1 ≤ i2 → zm_gR h a0 8 5 fun v1 => zm_gR h a0 8 4 fun v2 => zm_gR h v2 0 0 fun v3 => zm_gR h a0 8 4 fun v4 => zm_gI h v4 0 1 fun v5 => zm_rc h v1 5 ∧ zm_cv K M_X5_append [.ref v1, .int (nI 0), .ref v3, .int (nI 0), .int v5] h fun h1 => zm_Go E nc ns 62 [(0, .ref a0), (1, .int i1), (2, .int (i2 + (nI 1)))] [] h1)) : zm_Go E nc ns 62 [(0, .ref a0), (1, .int i1), (2, .int i2)] [] h := by
  refine zm_iload_n C rfl 2 rfl dX8_add_62 ?_
  refine zm_iload_n C rfl 1 rfl dX8_add_63 ?_
  refine zm_icmp_ge (tgt := 96) C dX8_add_64 (by decide) (fun z => ?_) (fun z => ?_)
  · replace w := w.1 z
    refine zm_iconst (v := nI 1) C (by decide) dX8_add_96 ?_
    exact zm_ireturn C Rt (by show nc ≤ 0; omega) (by show ns ≤ 0; omega) w.1 dX8_add_97 w.2
  · replace w := w.2 z
    refine zm_aload_n C rfl 0 rfl dX8_add_67 ?_
    refine zm_getR C ff_X8_27 dX8_add_68 w (fun v1 w => ?_)
    refine zm_iconst (v := nI 0) C (by decide) dX8_add_71 ?_
    refine zm_aload_n C rfl 0 rfl dX8_add_72 ?_
    refine zm_getR C ff_X8_21 dX8_add_73 w (fun v2 w => ?_)
    refine zm_getR C ff_X8_70 dX8_add_76 w (fun v3 w => ?_)
    refine zm_iconst (v := nI 0) C (by decide) dX8_add_79 ?_
    refine zm_aload_n C rfl 0 rfl dX8_add_80 ?_
    refine zm_getR C ff_X8_21 dX8_add_81 w (fun v4 w => ?_)
    refine zm_getI C ff_X8_56 dX8_add_84 w (fun v5 w => ?_)
    obtain ⟨wr, w⟩ := w
    refine zm_Vv (As := [.int (nI 0), .ref v3, .int (nI 0), .int v5]) (rest := []) C M_X5_append sv_X8_74 rfl dX8_add_87 rfl (Nat.le_of_ble_eq_true rfl) (by decide) (by decide) (by show nc + 0 ≤ 0; omega) (by show ns + 0 ≤ 0; omega) wr w (fun h1 w => ?_)
    refine zm_iinc (L' := [(0, .ref a0), (1, .int i1), (2, .int (i2 + (nI 1)))]) C (by decide) 2 [1, 2, 0] dX8_add_90 rfl rfl rfl ?_
    refine zm_goto (tgt := 62) C dX8_add_93 (by decide) ?_
    exact w
set_option maxRecDepth 20000 in
theorem B_X8_clear_0 {E : zm_E} {K : zm_K} {Post : zm_Po} {nc ns : Nat} (C : zm_Cx E K cX8_clear RX8 1 0 0 0 1) (Rt : zm_Rt E Post 0 0 none) {a0 : Nat} {h : zm_H} (hnc : nc ≤ 0) (hns : ns ≤ 0) (w : zm_gR h a0 8 5 fun v1 => zm_pf h v1 5 2 (.int (nI 0)) fun h1 => Post none h1) : zm_Go E nc ns 0 [(0, .ref a0)] [] h := by
  refine zm_aload_n C rfl 0 rfl dX8_clear_0 ?_
  refine zm_getR C ff_X8_27 dX8_clear_1 w (fun v1 w => ?_)
  refine zm_iconst (v := nI 0) C (by decide) dX8_clear_4 ?_
  refine zm_put C ff_X8_63 ft_X5 fp_X8_5_2 rfl rfl dX8_clear_5 w (fun h1 w => ?_)
  exact zm_return C Rt (by show nc ≤ 0; omega) (by show ns ≤ 0; omega) dX8_clear_8 w
set_option maxRecDepth 20000 in
theorem B_X8_write_0 {E : zm_E} {K : zm_K} {Post : zm_Po} {nc ns : Nat} (C : zm_Cx E K cX8_write RX8 7 155 0 0 2) (Rt : zm_Rt E Post 0 0 (some .int)) {a0 : Nat} {i1 : Int32} {h : zm_H} (hnc : nc ≤ 0) (hns : ns ≤ 0) (w : zm_gR h a0 8 0 fun v1 => zm_pf h v1 0 1 (.int (nI 0)) fun h1 => (i1 = nI 0 → zm_gR h1 a0 8 1 fun v2 => zm_gR h1 a0 8 5 fun v3 => zm_gR h1 a0 8 0 fun v4 => zm_rc h1 v2 3 ∧ zm_cv K M_X3_plain [.ref v2, .ref v3, .ref v4] h1 fun h2 => zm_gR h2 a0 8 0 fun v5 => zm_gI h2 v5 0 1 fun v6 => Post (some (.int v6)) h2) ∧ (i1 = nI 1 → zm_gR h1 a0 8 1 fun v7 => zm_gR h1 a0 8 5 fun v8 => zm_gR h1 a0 8 0 fun v9 => zm_rc h1 v7 3 ∧ zm_cv K M_X3_lengths [.ref v7, .ref v8, .ref v9] h1 fun h3 => zm_gR h3 a0 8 0 fun v10 => zm_gI h3 v10 0 1 fun v11 => Post (some (.int v11)) h3) ∧ (i1 = nI 2 → zm_gR h1 a0 8 1 fun v12 => zm_gR h1 a0 8 5 fun v13 => zm_gR h1 a0 8 0 fun v14 => zm_rc h1 v12 3 ∧ zm_cv K M_X3_front [.ref v12, .ref v13, .ref v14] h1 fun h4 => zm_gR h4 a0 8 0 fun v15 => zm_gI h4 v15 0 1 fun v16 => Post (some (.int v16)) h4) ∧ (i1 = nI 3 → zm_gR h1 a0 8 1 fun v17 => zm_gR h1 a0 8 5 fun v18 => zm_gR h1 a0 8 0 fun v19 => zm_rc h1 v17 3 ∧ zm_cv K M_X3_dictionary [.ref v17, .ref v18, .ref v19] h1 fun h5 => zm_gR h5 a0 8 0 fun v20 => zm_gI h5 v20 0 1 fun v21 => Post (some (.int v21)) h5) ∧ (¬ i1 = nI 0 → ¬ i1 = nI 1 → ¬ i1 = nI 2 → ¬ i1 = nI 3 → Post (some (.int (-1))) h1)) : zm_Go E nc ns 0 [(0, .ref a0), (1, .int i1)] [] h := by
  refine zm_aload_n C rfl 0 rfl dX8_write_0 ?_
  refine zm_getR C ff_X8_14 dX8_write_1 w (fun v1 w => ?_)
  refine zm_iconst (v := nI 0) C (by decide) dX8_write_4 ?_
  refine zm_put C ff_X8_56 ft_X0 fp_X8_0_1 rfl rfl dX8_write_5 w (fun h1 w => ?_)
  refine zm_iload_n C rfl 1 rfl dX8_write_8 ?_
  by_cases z0 : i1 = nI 0
  · replace w := w.1 z0
    refine zm_swIn (off := 31) (tgt := 40) C dX8_write_9 (by rw [z0]; decide) (by rw [z0]; decide) (by rw [z0]; decide) (by decide) ?_
    refine zm_aload_n C rfl 0 rfl dX8_write_40 ?_
    refine zm_getR C ff_X8_45 dX8_write_41 w (fun v2 w => ?_)
    refine zm_aload_n C rfl 0 rfl dX8_write_44 ?_
    refine zm_getR C ff_X8_27 dX8_write_45 w (fun v3 w => ?_)
    refine zm_aload_n C rfl 0 rfl dX8_write_48 ?_
    refine zm_getR C ff_X8_14 dX8_write_49 w (fun v4 w => ?_)
    obtain ⟨wr, w⟩ := w
    refine zm_Vv (As := [.ref v3, .ref v4]) (rest := []) C M_X3_plain sv_X8_78 rfl dX8_write_52 rfl (Nat.le_of_ble_eq_true rfl) (by decide) (by decide) (by show nc + 0 ≤ 0; omega) (by show ns + 0 ≤ 0; omega) wr w (fun h2 w => ?_)
    refine zm_goto (tgt := 114) C dX8_write_55 (by decide) ?_
    refine zm_aload_n C rfl 0 rfl dX8_write_114 ?_
    refine zm_getR C ff_X8_14 dX8_write_115 w (fun v5 w => ?_)
    refine zm_getI C ff_X8_56 dX8_write_118 w (fun v6 w => ?_)
    exact zm_ireturn C Rt (by show nc ≤ 0; omega) (by show ns ≤ 0; omega) rfl dX8_write_121 w
  by_cases z1 : i1 = nI 1
  · replace w := w.2.1 z1
    refine zm_swIn (off := 49) (tgt := 58) C dX8_write_9 (by rw [z1]; decide) (by rw [z1]; decide) (by rw [z1]; decide) (by decide) ?_
    refine zm_aload_n C rfl 0 rfl dX8_write_58 ?_
    refine zm_getR C ff_X8_45 dX8_write_59 w (fun v7 w => ?_)
    refine zm_aload_n C rfl 0 rfl dX8_write_62 ?_
    refine zm_getR C ff_X8_27 dX8_write_63 w (fun v8 w => ?_)
    refine zm_aload_n C rfl 0 rfl dX8_write_66 ?_
    refine zm_getR C ff_X8_14 dX8_write_67 w (fun v9 w => ?_)
    obtain ⟨wr, w⟩ := w
    refine zm_Vv (As := [.ref v8, .ref v9]) (rest := []) C M_X3_lengths sv_X8_82 rfl dX8_write_70 rfl (Nat.le_of_ble_eq_true rfl) (by decide) (by decide) (by show nc + 0 ≤ 0; omega) (by show ns + 0 ≤ 0; omega) wr w (fun h3 w => ?_)
    refine zm_goto (tgt := 114) C dX8_write_73 (by decide) ?_
    refine zm_aload_n C rfl 0 rfl dX8_write_114 ?_
    refine zm_getR C ff_X8_14 dX8_write_115 w (fun v10 w => ?_)
    refine zm_getI C ff_X8_56 dX8_write_118 w (fun v11 w => ?_)
    exact zm_ireturn C Rt (by show nc ≤ 0; omega) (by show ns ≤ 0; omega) rfl dX8_write_121 w
  by_cases z2 : i1 = nI 2
  · replace w := w.2.2.1 z2
    refine zm_swIn (off := 67) (tgt := 76) C dX8_write_9 (by rw [z2]; decide) (by rw [z2]; decide) (by rw [z2]; decide) (by decide) ?_
    refine zm_aload_n C rfl 0 rfl dX8_write_76 ?_
    refine zm_getR C ff_X8_45 dX8_write_77 w (fun v12 w => ?_)
    refine zm_aload_n C rfl 0 rfl dX8_write_80 ?_
    refine zm_getR C ff_X8_27 dX8_write_81 w (fun v13 w => ?_)
    refine zm_aload_n C rfl 0 rfl dX8_write_84 ?_
    refine zm_getR C ff_X8_14 dX8_write_85 w (fun v14 w => ?_)
    obtain ⟨wr, w⟩ := w
    refine zm_Vv (As := [.ref v13, .ref v14]) (rest := []) C M_X3_front sv_X8_85 rfl dX8_write_88 rfl (Nat.le_of_ble_eq_true rfl) (by decide) (by decide) (by show nc + 0 ≤ 0; omega) (by show ns + 0 ≤ 0; omega) wr w (fun h4 w => ?_)
    refine zm_goto (tgt := 114) C dX8_write_91 (by decide) ?_
    refine zm_aload_n C rfl 0 rfl dX8_write_114 ?_
    refine zm_getR C ff_X8_14 dX8_write_115 w (fun v15 w => ?_)
    refine zm_getI C ff_X8_56 dX8_write_118 w (fun v16 w => ?_)
    exact zm_ireturn C Rt (by show nc ≤ 0; omega) (by show ns ≤ 0; omega) rfl dX8_write_121 w
  by_cases z3 : i1 = nI 3
  · replace w := w.2.2.2.1 z3
    refine zm_swIn (off := 85) (tgt := 94) C dX8_write_9 (by rw [z3]; decide) (by rw [z3]; decide) (by rw [z3]; decide) (by decide) ?_
    refine zm_aload_n C rfl 0 rfl dX8_write_94 ?_
    refine zm_getR C ff_X8_45 dX8_write_95 w (fun v17 w => ?_)
    refine zm_aload_n C rfl 0 rfl dX8_write_98 ?_
    refine zm_getR C ff_X8_27 dX8_write_99 w (fun v18 w => ?_)
    refine zm_aload_n C rfl 0 rfl dX8_write_102 ?_
    refine zm_getR C ff_X8_14 dX8_write_103 w (fun v19 w => ?_)
    obtain ⟨wr, w⟩ := w
    refine zm_Vv (As := [.ref v18, .ref v19]) (rest := []) C M_X3_dictionary sv_X8_88 rfl dX8_write_106 rfl (Nat.le_of_ble_eq_true rfl) (by decide) (by decide) (by show nc + 0 ≤ 0; omega) (by show ns + 0 ≤ 0; omega) wr w (fun h5 w => ?_)
    refine zm_goto (tgt := 114) C dX8_write_109 (by decide) ?_
    refine zm_aload_n C rfl 0 rfl dX8_write_114 ?_
    refine zm_getR C ff_X8_14 dX8_write_115 w (fun v20 w => ?_)
    refine zm_getI C ff_X8_56 dX8_write_118 w (fun v21 w => ?_)
    exact zm_ireturn C Rt (by show nc ≤ 0; omega) (by show ns ≤ 0; omega) rfl dX8_write_121 w
  replace w := w.2.2.2.2 z0 z1 z2 z3
  refine zm_swOut (tgt := 112) C dX8_write_9 (zm_outN (hi := 3) (by decide) (fun k hk => by rcases (show k = 0 ∨ k = 1 ∨ k = 2 ∨ k = 3 by omega) with rfl | rfl | rfl | rfl <;> assumption)) (by decide) ?_
  refine zm_iconst (v := (-1)) C (by decide) dX8_write_112 ?_
  exact zm_ireturn C Rt (by show nc ≤ 0; omega) (by show ns ≤ 0; omega) rfl dX8_write_113 w
set_option maxRecDepth 20000 in
theorem B_X8_read_0 {E : zm_E} {K : zm_K} {Post : zm_Po} {nc ns : Nat} (C : zm_Cx E K cX8_read RX8 8 173 0 0 4) (Rt : zm_Rt E Post 0 0 (some .int)) {a0 : Nat} {i1 : Int32} {i2 : Int32} {h : zm_H} (hnc : nc ≤ 0) (hns : ns ≤ 0) (w : (i2 < 0 → Post (some (.int (-1))) h) ∧ (¬ i2 < 0 → (i2 ≤ (nI 1000) → zm_gR h a0 8 6 fun v1 => zm_pf h v1 5 2 (.int (nI 0)) fun h1 => zm_gR h1 a0 8 2 fun v2 => zm_gR h1 a0 8 4 fun v3 => zm_rc h1 v2 2 ∧ zm_cv K M_X2_open [.ref v2, .ref v3] h1 fun h2 => (i1 = nI 0 → zm_gR h2 a0 8 2 fun v4 => zm_gR h2 a0 8 6 fun v5 => zm_rc h2 v4 2 ∧ zm_cv K M_X2_plain [.ref v4, .ref v5, .int i2] h2 fun h3 => zm_gR h3 a0 8 2 fun v6 => zm_rc h3 v6 2 ∧ zm_ci K M_X2_fault [.ref v6] h3 fun v7 h4 => (¬ v7 = 0 → zm_gR h4 a0 8 2 fun v8 => zm_rc h4 v8 2 ∧ zm_ci K M_X2_fault [.ref v8] h4 fun v9 h5 => Post (some (.int v9)) h5) ∧ (v7 = 0 → zm_gR h4 a0 8 6 fun v10 => zm_gR h4 a0 8 5 fun v11 => zm_pf h4 a0 8 6 (.ref v11) fun h6 => zm_pf h6 a0 8 5 (.ref v10) fun h7 => zm_gR h7 a0 8 2 fun v12 => zm_rc h7 v12 2 ∧ zm_ci K M_X2_fault [.ref v12] h7 fun v13 h8 => Post (some (.int v13)) h8)) ∧ (i1 = nI 1 → zm_gR h2 a0 8 2 fun v14 => zm_gR h2 a0 8 6 fun v15 => zm_rc h2 v14 2 ∧ zm_cv K M_X2_lengths [.ref v14, .ref v15, .int i2] h2 fun h9 => zm_gR h9 a0 8 2 fun v16 => zm_rc h9 v16 2 ∧ zm_ci K M_X2_fault [.ref v16] h9 fun v17 h10 => (¬ v17 = 0 → zm_gR h10 a0 8 2 fun v18 => zm_rc h10 v18 2 ∧ zm_ci K M_X2_fault [.ref v18] h10 fun v19 h11 => Post (some (.int v19)) h11) ∧ (v17 = 0 → zm_gR h10 a0 8 6 fun v20 => zm_gR h10 a0 8 5 fun v21 => zm_pf h10 a0 8 6 (.ref v21) fun h12 => zm_pf h12 a0 8 5 (.ref v20) fun h13 => zm_gR h13 a0 8 2 fun v22 => zm_rc h13 v22 2 ∧ zm_ci K M_X2_fault [.ref v22] h13 fun v23 h14 => Post (some (.int v23)) h14)) ∧ (i1 = nI 2 → zm_gR h2 a0 8 2 fun v24 => zm_gR h2 a0 8 6 fun v25 => zm_rc h2 v24 2 ∧ zm_cv K M_X2_front [.ref v24, .ref v25, .int i2] h2 fun h15 => zm_gR h15 a0 8 2 fun v26 => zm_rc h15 v26 2 ∧ zm_ci K M_X2_fault [.ref v26] h15 fun v27 h16 => (¬ v27 = 0 → zm_gR h16 a0 8 2 fun v28 => zm_rc h16 v28 2 ∧ zm_ci K M_X2_fault [.ref v28] h16 fun v29 h17 => Post (some (.int v29)) h17) ∧ (v27 = 0 → zm_gR h16 a0 8 6 fun v30 => zm_gR h16 a0 8 5 fun v31 => zm_pf h16 a0 8 6 (.ref v31) fun h18 => zm_pf h18 a0 8 5 (.ref v30) fun h19 => zm_gR h19 a0 8 2 fun v32 => zm_rc h19 v32 2 ∧ zm_ci K M_X2_fault [.ref v32] h19 fun v33 h20 => Post (some (.int v33)) h20)) ∧ (i1 = nI 3 → zm_gR h2 a0 8 2 fun v34 => zm_gR h2 a0 8 6 fun v35 => zm_rc h2 v34 2 ∧ zm_cv K M_X2_dictionary [.ref v34, .ref v35, .int i2] h2 fun h21 => zm_gR h21 a0 8 2 fun v36 => zm_rc h21 v36 2 ∧ zm_ci K M_X2_fault [.ref v36] h21 fun v37 h22 => (¬ v37 = 0 → zm_gR h22 a0 8 2 fun v38 => zm_rc h22 v38 2 ∧ zm_ci K M_X2_fault [.ref v38] h22 fun v39 h23 => Post (some (.int v39)) h23) ∧ (v37 = 0 → zm_gR h22 a0 8 6 fun v40 => zm_gR h22 a0 8 5 fun v41 => zm_pf h22 a0 8 6 (.ref v41) fun h24 => zm_pf h24 a0 8 5 (.ref v40) fun h25 => zm_gR h25 a0 8 2 fun v42 => zm_rc h25 v42 2 ∧ zm_ci K M_X2_fault [.ref v42] h25 fun v43 h26 => Post (some (.int v43)) h26)) ∧ (¬ i1 = nI 0 → ¬ i1 = nI 1 → ¬ i1 = nI 2 → ¬ i1 = nI 3 → Post (some (.int (-1))) h2)) ∧ (¬ i2 ≤ (nI 1000) → Post (some (.int (-1))) h))) : zm_Go E nc ns 0 [(0, .ref a0), (1, .int i1), (2, .int i2)] [] h := by
  refine zm_iload_n C rfl 2 rfl dX8_read_0 ?_
  refine zm_if_lt (tgt := 11) C dX8_read_1 (by decide) (fun z => ?_) (fun z => ?_)
  · replace w := w.1 z
    refine zm_iconst (v := (-1)) C (by decide) dX8_read_11 ?_
    exact zm_ireturn C Rt (by show nc ≤ 0; omega) (by show ns ≤ 0; omega) rfl dX8_read_12 w
  · replace w := w.2 z
    refine zm_iload_n C rfl 2 rfl dX8_read_4 ?_
    refine zm_sipush (v := nI 1000) C (by decide) dX8_read_5 ?_
    refine zm_icmp_le (tgt := 13) C dX8_read_8 (by decide) (fun z => ?_) (fun z => ?_)
    · replace w := w.1 z
      refine zm_aload_n C rfl 0 rfl dX8_read_13 ?_
      refine zm_getR C ff_X8_31 dX8_read_14 w (fun v1 w => ?_)
      refine zm_iconst (v := nI 0) C (by decide) dX8_read_17 ?_
      refine zm_put C ff_X8_63 ft_X5 fp_X8_5_2 rfl rfl dX8_read_18 w (fun h1 w => ?_)
      refine zm_aload_n C rfl 0 rfl dX8_read_21 ?_
      refine zm_getR C ff_X8_52 dX8_read_22 w (fun v2 w => ?_)
      refine zm_aload_n C rfl 0 rfl dX8_read_25 ?_
      refine zm_getR C ff_X8_21 dX8_read_26 w (fun v3 w => ?_)
      obtain ⟨wr, w⟩ := w
      refine zm_Vv (As := [.ref v3]) (rest := []) C M_X2_open sv_X8_91 rfl dX8_read_29 rfl (Nat.le_of_ble_eq_true rfl) (by decide) (by decide) (by show nc + 0 ≤ 0; omega) (by show ns + 0 ≤ 0; omega) wr w (fun h2 w => ?_)
      refine zm_iload_n C rfl 1 rfl dX8_read_32 ?_
      by_cases z0 : i1 = nI 0
      · replace w := w.1 z0
        refine zm_swIn (off := 31) (tgt := 64) C dX8_read_33 (by rw [z0]; decide) (by rw [z0]; decide) (by rw [z0]; decide) (by decide) ?_
        refine zm_aload_n C rfl 0 rfl dX8_read_64 ?_
        refine zm_getR C ff_X8_52 dX8_read_65 w (fun v4 w => ?_)
        refine zm_aload_n C rfl 0 rfl dX8_read_68 ?_
        refine zm_getR C ff_X8_31 dX8_read_69 w (fun v5 w => ?_)
        refine zm_iload_n C rfl 2 rfl dX8_read_72 ?_
        obtain ⟨wr, w⟩ := w
        refine zm_Vv (As := [.ref v5, .int i2]) (rest := []) C M_X2_plain sv_X8_95 rfl dX8_read_73 rfl (Nat.le_of_ble_eq_true rfl) (by decide) (by decide) (by show nc + 0 ≤ 0; omega) (by show ns + 0 ≤ 0; omega) wr w (fun h3 w => ?_)
        refine zm_goto (tgt := 126) C dX8_read_76 (by decide) ?_
        refine zm_aload_n C rfl 0 rfl dX8_read_126 ?_
        refine zm_getR C ff_X8_52 dX8_read_127 w (fun v6 w => ?_)
        obtain ⟨wr, w⟩ := w
        refine zm_Vi (As := []) (rest := []) C M_X2_fault sv_X8_104 rfl dX8_read_130 rfl (Nat.le_of_ble_eq_true rfl) (by decide) (by decide) (by show nc + 0 ≤ 0; omega) (by show ns + 0 ≤ 0; omega) wr w (fun v7 h4 w => ?_)
        refine zm_if_ne (tgt := 154) C dX8_read_133 (by decide) (fun z => ?_) (fun z => ?_)
        · replace w := w.1 z
          refine zm_aload_n C rfl 0 rfl dX8_read_154 ?_
          refine zm_getR C ff_X8_52 dX8_read_155 w (fun v8 w => ?_)
          obtain ⟨wr, w⟩ := w
          refine zm_Vi (As := []) (rest := []) C M_X2_fault sv_X8_104 rfl dX8_read_158 rfl (Nat.le_of_ble_eq_true rfl) (by decide) (by decide) (by show nc + 0 ≤ 0; omega) (by show ns + 0 ≤ 0; omega) wr w (fun v9 h5 w => ?_)
          exact zm_ireturn C Rt (by show nc ≤ 0; omega) (by show ns ≤ 0; omega) rfl dX8_read_161 w
        · replace w := w.2 z
          refine zm_aload_n C rfl 0 rfl dX8_read_136 ?_
          refine zm_getR C ff_X8_31 dX8_read_137 w (fun v10 w => ?_)
          refine zm_astore_n (L' := [(0, .ref a0), (1, .int i1), (2, .int i2), (3, .ref v10)]) C rfl (by decide) [1, 2, 3, 0] dX8_read_140 rfl ?_
          refine zm_aload_n C rfl 0 rfl dX8_read_141 ?_
          refine zm_aload_n C rfl 0 rfl dX8_read_142 ?_
          refine zm_getR C ff_X8_27 dX8_read_143 w (fun v11 w => ?_)
          refine zm_put C ff_X8_31 ft_X8 fp_X8_8_6 rfl rfl dX8_read_146 w (fun h6 w => ?_)
          refine zm_aload_n C rfl 0 rfl dX8_read_149 ?_
          refine zm_aload_n C rfl 3 rfl dX8_read_150 ?_
          refine zm_put C ff_X8_27 ft_X8 fp_X8_8_5 rfl rfl dX8_read_151 w (fun h7 w => ?_)
          refine zm_aload_n C rfl 0 rfl dX8_read_154 ?_
          refine zm_getR C ff_X8_52 dX8_read_155 w (fun v12 w => ?_)
          obtain ⟨wr, w⟩ := w
          refine zm_Vi (As := []) (rest := []) C M_X2_fault sv_X8_104 rfl dX8_read_158 rfl (Nat.le_of_ble_eq_true rfl) (by decide) (by decide) (by show nc + 0 ≤ 0; omega) (by show ns + 0 ≤ 0; omega) wr w (fun v13 h8 w => ?_)
          exact zm_ireturn C Rt (by show nc ≤ 0; omega) (by show ns ≤ 0; omega) rfl dX8_read_161 w
      by_cases z1 : i1 = nI 1
      · replace w := w.2.1 z1
        refine zm_swIn (off := 46) (tgt := 79) C dX8_read_33 (by rw [z1]; decide) (by rw [z1]; decide) (by rw [z1]; decide) (by decide) ?_
        refine zm_aload_n C rfl 0 rfl dX8_read_79 ?_
        refine zm_getR C ff_X8_52 dX8_read_80 w (fun v14 w => ?_)
        refine zm_aload_n C rfl 0 rfl dX8_read_83 ?_
        refine zm_getR C ff_X8_31 dX8_read_84 w (fun v15 w => ?_)
        refine zm_iload_n C rfl 2 rfl dX8_read_87 ?_
        obtain ⟨wr, w⟩ := w
        refine zm_Vv (As := [.ref v15, .int i2]) (rest := []) C M_X2_lengths sv_X8_98 rfl dX8_read_88 rfl (Nat.le_of_ble_eq_true rfl) (by decide) (by decide) (by show nc + 0 ≤ 0; omega) (by show ns + 0 ≤ 0; omega) wr w (fun h9 w => ?_)
        refine zm_goto (tgt := 126) C dX8_read_91 (by decide) ?_
        refine zm_aload_n C rfl 0 rfl dX8_read_126 ?_
        refine zm_getR C ff_X8_52 dX8_read_127 w (fun v16 w => ?_)
        obtain ⟨wr, w⟩ := w
        refine zm_Vi (As := []) (rest := []) C M_X2_fault sv_X8_104 rfl dX8_read_130 rfl (Nat.le_of_ble_eq_true rfl) (by decide) (by decide) (by show nc + 0 ≤ 0; omega) (by show ns + 0 ≤ 0; omega) wr w (fun v17 h10 w => ?_)
        refine zm_if_ne (tgt := 154) C dX8_read_133 (by decide) (fun z => ?_) (fun z => ?_)
        · replace w := w.1 z
          refine zm_aload_n C rfl 0 rfl dX8_read_154 ?_
          refine zm_getR C ff_X8_52 dX8_read_155 w (fun v18 w => ?_)
          obtain ⟨wr, w⟩ := w
          refine zm_Vi (As := []) (rest := []) C M_X2_fault sv_X8_104 rfl dX8_read_158 rfl (Nat.le_of_ble_eq_true rfl) (by decide) (by decide) (by show nc + 0 ≤ 0; omega) (by show ns + 0 ≤ 0; omega) wr w (fun v19 h11 w => ?_)
          exact zm_ireturn C Rt (by show nc ≤ 0; omega) (by show ns ≤ 0; omega) rfl dX8_read_161 w
        · replace w := w.2 z
          refine zm_aload_n C rfl 0 rfl dX8_read_136 ?_
          refine zm_getR C ff_X8_31 dX8_read_137 w (fun v20 w => ?_)
          refine zm_astore_n (L' := [(0, .ref a0), (1, .int i1), (2, .int i2), (3, .ref v20)]) C rfl (by decide) [1, 2, 3, 0] dX8_read_140 rfl ?_
          refine zm_aload_n C rfl 0 rfl dX8_read_141 ?_
          refine zm_aload_n C rfl 0 rfl dX8_read_142 ?_
          refine zm_getR C ff_X8_27 dX8_read_143 w (fun v21 w => ?_)
          refine zm_put C ff_X8_31 ft_X8 fp_X8_8_6 rfl rfl dX8_read_146 w (fun h12 w => ?_)
          refine zm_aload_n C rfl 0 rfl dX8_read_149 ?_
          refine zm_aload_n C rfl 3 rfl dX8_read_150 ?_
          refine zm_put C ff_X8_27 ft_X8 fp_X8_8_5 rfl rfl dX8_read_151 w (fun h13 w => ?_)
          refine zm_aload_n C rfl 0 rfl dX8_read_154 ?_
          refine zm_getR C ff_X8_52 dX8_read_155 w (fun v22 w => ?_)
          obtain ⟨wr, w⟩ := w
          refine zm_Vi (As := []) (rest := []) C M_X2_fault sv_X8_104 rfl dX8_read_158 rfl (Nat.le_of_ble_eq_true rfl) (by decide) (by decide) (by show nc + 0 ≤ 0; omega) (by show ns + 0 ≤ 0; omega) wr w (fun v23 h14 w => ?_)
          exact zm_ireturn C Rt (by show nc ≤ 0; omega) (by show ns ≤ 0; omega) rfl dX8_read_161 w
      by_cases z2 : i1 = nI 2
      · replace w := w.2.2.1 z2
        refine zm_swIn (off := 61) (tgt := 94) C dX8_read_33 (by rw [z2]; decide) (by rw [z2]; decide) (by rw [z2]; decide) (by decide) ?_
        refine zm_aload_n C rfl 0 rfl dX8_read_94 ?_
        refine zm_getR C ff_X8_52 dX8_read_95 w (fun v24 w => ?_)
        refine zm_aload_n C rfl 0 rfl dX8_read_98 ?_
        refine zm_getR C ff_X8_31 dX8_read_99 w (fun v25 w => ?_)
        refine zm_iload_n C rfl 2 rfl dX8_read_102 ?_
        obtain ⟨wr, w⟩ := w
        refine zm_Vv (As := [.ref v25, .int i2]) (rest := []) C M_X2_front sv_X8_100 rfl dX8_read_103 rfl (Nat.le_of_ble_eq_true rfl) (by decide) (by decide) (by show nc + 0 ≤ 0; omega) (by show ns + 0 ≤ 0; omega) wr w (fun h15 w => ?_)
        refine zm_goto (tgt := 126) C dX8_read_106 (by decide) ?_
        refine zm_aload_n C rfl 0 rfl dX8_read_126 ?_
        refine zm_getR C ff_X8_52 dX8_read_127 w (fun v26 w => ?_)
        obtain ⟨wr, w⟩ := w
        refine zm_Vi (As := []) (rest := []) C M_X2_fault sv_X8_104 rfl dX8_read_130 rfl (Nat.le_of_ble_eq_true rfl) (by decide) (by decide) (by show nc + 0 ≤ 0; omega) (by show ns + 0 ≤ 0; omega) wr w (fun v27 h16 w => ?_)
        refine zm_if_ne (tgt := 154) C dX8_read_133 (by decide) (fun z => ?_) (fun z => ?_)
        · replace w := w.1 z
          refine zm_aload_n C rfl 0 rfl dX8_read_154 ?_
          refine zm_getR C ff_X8_52 dX8_read_155 w (fun v28 w => ?_)
          obtain ⟨wr, w⟩ := w
          refine zm_Vi (As := []) (rest := []) C M_X2_fault sv_X8_104 rfl dX8_read_158 rfl (Nat.le_of_ble_eq_true rfl) (by decide) (by decide) (by show nc + 0 ≤ 0; omega) (by show ns + 0 ≤ 0; omega) wr w (fun v29 h17 w => ?_)
          exact zm_ireturn C Rt (by show nc ≤ 0; omega) (by show ns ≤ 0; omega) rfl dX8_read_161 w
        · replace w := w.2 z
          refine zm_aload_n C rfl 0 rfl dX8_read_136 ?_
          refine zm_getR C ff_X8_31 dX8_read_137 w (fun v30 w => ?_)
          refine zm_astore_n (L' := [(0, .ref a0), (1, .int i1), (2, .int i2), (3, .ref v30)]) C rfl (by decide) [1, 2, 3, 0] dX8_read_140 rfl ?_
          refine zm_aload_n C rfl 0 rfl dX8_read_141 ?_
          refine zm_aload_n C rfl 0 rfl dX8_read_142 ?_
          refine zm_getR C ff_X8_27 dX8_read_143 w (fun v31 w => ?_)
          refine zm_put C ff_X8_31 ft_X8 fp_X8_8_6 rfl rfl dX8_read_146 w (fun h18 w => ?_)
          refine zm_aload_n C rfl 0 rfl dX8_read_149 ?_
          refine zm_aload_n C rfl 3 rfl dX8_read_150 ?_
          refine zm_put C ff_X8_27 ft_X8 fp_X8_8_5 rfl rfl dX8_read_151 w (fun h19 w => ?_)
          refine zm_aload_n C rfl 0 rfl dX8_read_154 ?_
          refine zm_getR C ff_X8_52 dX8_read_155 w (fun v32 w => ?_)
          obtain ⟨wr, w⟩ := w
          refine zm_Vi (As := []) (rest := []) C M_X2_fault sv_X8_104 rfl dX8_read_158 rfl (Nat.le_of_ble_eq_true rfl) (by decide) (by decide) (by show nc + 0 ≤ 0; omega) (by show ns + 0 ≤ 0; omega) wr w (fun v33 h20 w => ?_)
          exact zm_ireturn C Rt (by show nc ≤ 0; omega) (by show ns ≤ 0; omega) rfl dX8_read_161 w
      by_cases z3 : i1 = nI 3
      · replace w := w.2.2.2.1 z3
        refine zm_swIn (off := 76) (tgt := 109) C dX8_read_33 (by rw [z3]; decide) (by rw [z3]; decide) (by rw [z3]; decide) (by decide) ?_
        refine zm_aload_n C rfl 0 rfl dX8_read_109 ?_
        refine zm_getR C ff_X8_52 dX8_read_110 w (fun v34 w => ?_)
        refine zm_aload_n C rfl 0 rfl dX8_read_113 ?_
        refine zm_getR C ff_X8_31 dX8_read_114 w (fun v35 w => ?_)
        refine zm_iload_n C rfl 2 rfl dX8_read_117 ?_
        obtain ⟨wr, w⟩ := w
        refine zm_Vv (As := [.ref v35, .int i2]) (rest := []) C M_X2_dictionary sv_X8_102 rfl dX8_read_118 rfl (Nat.le_of_ble_eq_true rfl) (by decide) (by decide) (by show nc + 0 ≤ 0; omega) (by show ns + 0 ≤ 0; omega) wr w (fun h21 w => ?_)
        refine zm_goto (tgt := 126) C dX8_read_121 (by decide) ?_
        refine zm_aload_n C rfl 0 rfl dX8_read_126 ?_
        refine zm_getR C ff_X8_52 dX8_read_127 w (fun v36 w => ?_)
        obtain ⟨wr, w⟩ := w
        refine zm_Vi (As := []) (rest := []) C M_X2_fault sv_X8_104 rfl dX8_read_130 rfl (Nat.le_of_ble_eq_true rfl) (by decide) (by decide) (by show nc + 0 ≤ 0; omega) (by show ns + 0 ≤ 0; omega) wr w (fun v37 h22 w => ?_)
        refine zm_if_ne (tgt := 154) C dX8_read_133 (by decide) (fun z => ?_) (fun z => ?_)
        · replace w := w.1 z
          refine zm_aload_n C rfl 0 rfl dX8_read_154 ?_
          refine zm_getR C ff_X8_52 dX8_read_155 w (fun v38 w => ?_)
          obtain ⟨wr, w⟩ := w
          refine zm_Vi (As := []) (rest := []) C M_X2_fault sv_X8_104 rfl dX8_read_158 rfl (Nat.le_of_ble_eq_true rfl) (by decide) (by decide) (by show nc + 0 ≤ 0; omega) (by show ns + 0 ≤ 0; omega) wr w (fun v39 h23 w => ?_)
          exact zm_ireturn C Rt (by show nc ≤ 0; omega) (by show ns ≤ 0; omega) rfl dX8_read_161 w
        · replace w := w.2 z
          refine zm_aload_n C rfl 0 rfl dX8_read_136 ?_
          refine zm_getR C ff_X8_31 dX8_read_137 w (fun v40 w => ?_)
          refine zm_astore_n (L' := [(0, .ref a0), (1, .int i1), (2, .int i2), (3, .ref v40)]) C rfl (by decide) [1, 2, 3, 0] dX8_read_140 rfl ?_
          refine zm_aload_n C rfl 0 rfl dX8_read_141 ?_
          refine zm_aload_n C rfl 0 rfl dX8_read_142 ?_
          refine zm_getR C ff_X8_27 dX8_read_143 w (fun v41 w => ?_)
          refine zm_put C ff_X8_31 ft_X8 fp_X8_8_6 rfl rfl dX8_read_146 w (fun h24 w => ?_)
          refine zm_aload_n C rfl 0 rfl dX8_read_149 ?_
          refine zm_aload_n C rfl 3 rfl dX8_read_150 ?_
          refine zm_put C ff_X8_27 ft_X8 fp_X8_8_5 rfl rfl dX8_read_151 w (fun h25 w => ?_)
          refine zm_aload_n C rfl 0 rfl dX8_read_154 ?_
          refine zm_getR C ff_X8_52 dX8_read_155 w (fun v42 w => ?_)
          obtain ⟨wr, w⟩ := w
          refine zm_Vi (As := []) (rest := []) C M_X2_fault sv_X8_104 rfl dX8_read_158 rfl (Nat.le_of_ble_eq_true rfl) (by decide) (by decide) (by show nc + 0 ≤ 0; omega) (by show ns + 0 ≤ 0; omega) wr w (fun v43 h26 w => ?_)
          exact zm_ireturn C Rt (by show nc ≤ 0; omega) (by show ns ≤ 0; omega) rfl dX8_read_161 w
      replace w := w.2.2.2.2 z0 z1 z2 z3
      refine zm_swOut (tgt := 124) C dX8_read_33 (zm_outN (hi := 3) (by decide) (fun k hk => by rcases (show k = 0 ∨ k = 1 ∨ k = 2 ∨ k = 3 by omega) with rfl | rfl | rfl | rfl <;> assumption)) (by decide) ?_
      refine zm_iconst (v := (-1)) C (by decide) dX8_read_124 ?_
      exact zm_ireturn C Rt (by show nc ≤ 0; omega) (by show ns ≤ 0; omega) rfl dX8_read_125 w
    · replace w := w.2 z
      refine zm_iconst (v := (-1)) C (by decide) dX8_read_11 ?_
      exact zm_ireturn C Rt (by show nc ≤ 0; omega) (by show ns ≤ 0; omega) rfl dX8_read_12 w
set_option maxRecDepth 20000 in
theorem B_X8_turn_0 {E : zm_E} {K : zm_K} {Post : zm_Po} {nc ns : Nat} (C : zm_Cx E K cX8_turn RX8 2 49 0 0 1) (Rt : zm_Rt E Post 0 0 (some .boolean)) {a0 : Nat} {h : zm_H} (hnc : nc ≤ 0) (hns : ns ≤ 0) (w : zm_gR h a0 8 0 fun v1 => zm_gI h v1 0 1 fun v2 => (v2 ≤ (nI 24000) → zm_gR h a0 8 4 fun v3 => zm_pf h v3 0 1 (.int (nI 0)) fun h1 => zm_gR h1 a0 8 4 fun v4 => zm_gR h1 a0 8 0 fun v5 => zm_gR h1 v5 0 0 fun v6 => zm_gR h1 a0 8 0 fun v7 => zm_gI h1 v7 0 1 fun v8 => zm_rc h1 v4 0 ∧ zm_cv K M_X0_putAll [.ref v4, .ref v6, .int (nI 0), .int v8] h1 fun h2 => narrow .boolean (.int (nI 1)) = .int (nI 1) ∧ Post (some (.int (nI 1))) h2) ∧ (¬ v2 ≤ (nI 24000) → narrow .boolean (.int (nI 0)) = .int (nI 0) ∧ Post (some (.int (nI 0))) h)) : zm_Go E nc ns 0 [(0, .ref a0)] [] h := by
  refine zm_aload_n C rfl 0 rfl dX8_turn_0 ?_
  refine zm_getR C ff_X8_14 dX8_turn_1 w (fun v1 w => ?_)
  refine zm_getI C ff_X8_56 dX8_turn_4 w (fun v2 w => ?_)
  refine zm_sipush (v := nI 24000) C (by decide) dX8_turn_7 ?_
  refine zm_icmp_le (tgt := 15) C dX8_turn_10 (by decide) (fun z => ?_) (fun z => ?_)
  · replace w := w.1 z
    refine zm_aload_n C rfl 0 rfl dX8_turn_15 ?_
    refine zm_getR C ff_X8_21 dX8_turn_16 w (fun v3 w => ?_)
    refine zm_iconst (v := nI 0) C (by decide) dX8_turn_19 ?_
    refine zm_put C ff_X8_56 ft_X0 fp_X8_0_1 rfl rfl dX8_turn_20 w (fun h1 w => ?_)
    refine zm_aload_n C rfl 0 rfl dX8_turn_23 ?_
    refine zm_getR C ff_X8_21 dX8_turn_24 w (fun v4 w => ?_)
    refine zm_aload_n C rfl 0 rfl dX8_turn_27 ?_
    refine zm_getR C ff_X8_14 dX8_turn_28 w (fun v5 w => ?_)
    refine zm_getR C ff_X8_70 dX8_turn_31 w (fun v6 w => ?_)
    refine zm_iconst (v := nI 0) C (by decide) dX8_turn_34 ?_
    refine zm_aload_n C rfl 0 rfl dX8_turn_35 ?_
    refine zm_getR C ff_X8_14 dX8_turn_36 w (fun v7 w => ?_)
    refine zm_getI C ff_X8_56 dX8_turn_39 w (fun v8 w => ?_)
    obtain ⟨wr, w⟩ := w
    refine zm_Vv (As := [.ref v6, .int (nI 0), .int v8]) (rest := []) C M_X0_putAll sv_X8_107 rfl dX8_turn_42 rfl (Nat.le_of_ble_eq_true rfl) (by decide) (by decide) (by show nc + 0 ≤ 0; omega) (by show ns + 0 ≤ 0; omega) wr w (fun h2 w => ?_)
    refine zm_iconst (v := nI 1) C (by decide) dX8_turn_45 ?_
    exact zm_ireturn C Rt (by show nc ≤ 0; omega) (by show ns ≤ 0; omega) w.1 dX8_turn_46 w.2
  · replace w := w.2 z
    refine zm_iconst (v := nI 0) C (by decide) dX8_turn_13 ?_
    exact zm_ireturn C Rt (by show nc ≤ 0; omega) (by show ns ≤ 0; omega) w.1 dX8_turn_14 w.2
set_option maxRecDepth 20000 in
theorem B_X8_size_0 {E : zm_E} {K : zm_K} {Post : zm_Po} {nc ns : Nat} (C : zm_Cx E K cX8_size RX8 1 0 0 0 1) (Rt : zm_Rt E Post 0 0 (some .int)) {a0 : Nat} {h : zm_H} (hnc : nc ≤ 0) (hns : ns ≤ 0) (w : zm_gR h a0 8 5 fun v1 => zm_gI h v1 5 2 fun v2 => Post (some (.int v2)) h) : zm_Go E nc ns 0 [(0, .ref a0)] [] h := by
  refine zm_aload_n C rfl 0 rfl dX8_size_0 ?_
  refine zm_getR C ff_X8_27 dX8_size_1 w (fun v1 w => ?_)
  refine zm_getI C ff_X8_63 dX8_size_4 w (fun v2 w => ?_)
  exact zm_ireturn C Rt (by show nc ≤ 0; omega) (by show ns ≤ 0; omega) rfl dX8_size_7 w
set_option maxRecDepth 20000 in
theorem B_X8_length_0 {E : zm_E} {K : zm_K} {Post : zm_Po} {nc ns : Nat} (C : zm_Cx E K cX8_length RX8 3 42 0 0 2) (Rt : zm_Rt E Post 0 0 (some .int)) {a0 : Nat} {i1 : Int32} {h : zm_H} (hnc : nc ≤ 0) (hns : ns ≤ 0) (w : zm_gR h a0 8 5 fun v1 => zm_rc h v1 5 ∧ zm_ci K M_X5_has [.ref v1, .int i1] h fun v2 h1 => (v2 = 0 → Post (some (.int (-1))) h1) ∧ (¬ v2 = 0 → zm_gR h1 a0 8 5 fun v3 => zm_rc h1 v3 5 ∧ zm_ci K M_X5_lengthOf [.ref v3, .int i1] h1 fun v4 h2 => Post (some (.int v4)) h2)) : zm_Go E nc ns 0 [(0, .ref a0), (1, .int i1)] [] h := by
  refine zm_aload_n C rfl 0 rfl dX8_length_0 ?_
  refine zm_getR C ff_X8_27 dX8_length_1 w (fun v1 w => ?_)
  refine zm_iload_n C rfl 1 rfl dX8_length_4 ?_
  obtain ⟨wr, w⟩ := w
  refine zm_Vi (As := [.int i1]) (rest := []) C M_X5_has sv_X8_111 rfl dX8_length_5 rfl (Nat.le_of_ble_eq_true rfl) (by decide) (by decide) (by show nc + 0 ≤ 0; omega) (by show ns + 0 ≤ 0; omega) wr w (fun v2 h1 w => ?_)
  refine zm_if_eq (tgt := 22) C dX8_length_8 (by decide) (fun z => ?_) (fun z => ?_)
  · replace w := w.1 z
    refine zm_iconst (v := (-1)) C (by decide) dX8_length_22 ?_
    exact zm_ireturn C Rt (by show nc ≤ 0; omega) (by show ns ≤ 0; omega) rfl dX8_length_23 w
  · replace w := w.2 z
    refine zm_aload_n C rfl 0 rfl dX8_length_11 ?_
    refine zm_getR C ff_X8_27 dX8_length_12 w (fun v3 w => ?_)
    refine zm_iload_n C rfl 1 rfl dX8_length_15 ?_
    obtain ⟨wr, w⟩ := w
    refine zm_Vi (As := [.int i1]) (rest := []) C M_X5_lengthOf sv_X8_115 rfl dX8_length_16 rfl (Nat.le_of_ble_eq_true rfl) (by decide) (by decide) (by show nc + 0 ≤ 0; omega) (by show ns + 0 ≤ 0; omega) wr w (fun v4 h2 w => ?_)
    refine zm_goto (tgt := 23) C dX8_length_19 (by decide) ?_
    exact zm_ireturn C Rt (by show nc ≤ 0; omega) (by show ns ≤ 0; omega) rfl dX8_length_23 w
set_option maxRecDepth 20000 in
theorem B_X8_byteOf_0 {E : zm_E} {K : zm_K} {Post : zm_Po} {nc ns : Nat} (C : zm_Cx E K cX8_byteOf RX8 3 42 0 0 3) (Rt : zm_Rt E Post 0 0 (some .int)) {a0 : Nat} {i1 : Int32} {i2 : Int32} {h : zm_H} (hnc : nc ≤ 0) (hns : ns ≤ 0) (w : zm_gR h a0 8 5 fun v1 => zm_rc h v1 5 ∧ zm_ci K M_X5_has [.ref v1, .int i1] h fun v2 h1 => (v2 = 0 → Post (some (.int (-1))) h1) ∧ (¬ v2 = 0 → (i2 < 0 → Post (some (.int (-1))) h1) ∧ (¬ i2 < 0 → zm_gR h1 a0 8 5 fun v3 => zm_rc h1 v3 5 ∧ zm_ci K M_X5_lengthOf [.ref v3, .int i1] h1 fun v4 h2 => (i2 < v4 → zm_gR h2 a0 8 5 fun v5 => zm_gR h2 v5 5 0 fun v6 => zm_gR h2 a0 8 5 fun v7 => zm_gR h2 v7 5 1 fun v8 => zm_ld K 1 h2 v8 i1 fun v9 => zm_ld K 0 h2 v6 (v9 + i2) fun v10 => Post (some (.int (v10 &&& (nI 255)))) h2) ∧ (¬ i2 < v4 → Post (some (.int (-1))) h2)))) : zm_Go E nc ns 0 [(0, .ref a0), (1, .int i1), (2, .int i2)] [] h := by
  refine zm_aload_n C rfl 0 rfl dX8_byteOf_0 ?_
  refine zm_getR C ff_X8_27 dX8_byteOf_1 w (fun v1 w => ?_)
  refine zm_iload_n C rfl 1 rfl dX8_byteOf_4 ?_
  obtain ⟨wr, w⟩ := w
  refine zm_Vi (As := [.int i1]) (rest := []) C M_X5_has sv_X8_111 rfl dX8_byteOf_5 rfl (Nat.le_of_ble_eq_true rfl) (by decide) (by decide) (by show nc + 0 ≤ 0; omega) (by show ns + 0 ≤ 0; omega) wr w (fun v2 h1 w => ?_)
  refine zm_if_eq (tgt := 27) C dX8_byteOf_8 (by decide) (fun z => ?_) (fun z => ?_)
  · replace w := w.1 z
    refine zm_iconst (v := (-1)) C (by decide) dX8_byteOf_27 ?_
    exact zm_ireturn C Rt (by show nc ≤ 0; omega) (by show ns ≤ 0; omega) rfl dX8_byteOf_28 w
  · replace w := w.2 z
    refine zm_iload_n C rfl 2 rfl dX8_byteOf_11 ?_
    refine zm_if_lt (tgt := 27) C dX8_byteOf_12 (by decide) (fun z => ?_) (fun z => ?_)
    · replace w := w.1 z
      refine zm_iconst (v := (-1)) C (by decide) dX8_byteOf_27 ?_
      exact zm_ireturn C Rt (by show nc ≤ 0; omega) (by show ns ≤ 0; omega) rfl dX8_byteOf_28 w
    · replace w := w.2 z
      refine zm_iload_n C rfl 2 rfl dX8_byteOf_15 ?_
      refine zm_aload_n C rfl 0 rfl dX8_byteOf_16 ?_
      refine zm_getR C ff_X8_27 dX8_byteOf_17 w (fun v3 w => ?_)
      refine zm_iload_n C rfl 1 rfl dX8_byteOf_20 ?_
      obtain ⟨wr, w⟩ := w
      refine zm_Vi (As := [.int i1]) (rest := [.int i2]) C M_X5_lengthOf sv_X8_115 rfl dX8_byteOf_21 rfl (Nat.le_of_ble_eq_true rfl) (by decide) (by decide) (by show nc + 0 ≤ 0; omega) (by show ns + 0 ≤ 0; omega) wr w (fun v4 h2 w => ?_)
      refine zm_icmp_lt (tgt := 29) C dX8_byteOf_24 (by decide) (fun z => ?_) (fun z => ?_)
      · replace w := w.1 z
        refine zm_aload_n C rfl 0 rfl dX8_byteOf_29 ?_
        refine zm_getR C ff_X8_27 dX8_byteOf_30 w (fun v5 w => ?_)
        refine zm_getR C ff_X8_119 dX8_byteOf_33 w (fun v6 w => ?_)
        refine zm_aload_n C rfl 0 rfl dX8_byteOf_36 ?_
        refine zm_getR C ff_X8_27 dX8_byteOf_37 w (fun v7 w => ?_)
        refine zm_getR C ff_X8_120 dX8_byteOf_40 w (fun v8 w => ?_)
        refine zm_iload_n C rfl 1 rfl dX8_byteOf_43 ?_
        refine zm_ldI C dX8_byteOf_44 w (fun v9 w => ?_)
        refine zm_iload_n C rfl 2 rfl dX8_byteOf_45 ?_
        refine zm_iadd C dX8_byteOf_46 ?_
        refine zm_ldB C dX8_byteOf_47 w (fun v10 w => ?_)
        refine zm_sipush (v := nI 255) C (by decide) dX8_byteOf_48 ?_
        refine zm_iand C dX8_byteOf_51 ?_
        exact zm_ireturn C Rt (by show nc ≤ 0; omega) (by show ns ≤ 0; omega) rfl dX8_byteOf_52 w
      · replace w := w.2 z
        refine zm_iconst (v := (-1)) C (by decide) dX8_byteOf_27 ?_
        exact zm_ireturn C Rt (by show nc ≤ 0; omega) (by show ns ≤ 0; omega) rfl dX8_byteOf_28 w
set_option maxRecDepth 20000 in
theorem B_X8_output_0 {E : zm_E} {K : zm_K} {Post : zm_Po} {nc ns : Nat} (C : zm_Cx E K cX8_output RX8 1 0 0 0 2) (Rt : zm_Rt E Post 0 0 (some .int)) {a0 : Nat} {i1 : Int32} {h : zm_H} (hnc : nc ≤ 0) (hns : ns ≤ 0) (w : (i1 < 0 → Post (some (.int (-1))) h) ∧ (¬ i1 < 0 → zm_gR h a0 8 0 fun v1 => zm_gI h v1 0 1 fun v2 => (i1 < v2 → zm_gR h a0 8 0 fun v3 => zm_gR h v3 0 0 fun v4 => zm_ld K 0 h v4 i1 fun v5 => Post (some (.int (v5 &&& (nI 255)))) h) ∧ (¬ i1 < v2 → Post (some (.int (-1))) h))) : zm_Go E nc ns 0 [(0, .ref a0), (1, .int i1)] [] h := by
  refine zm_iload_n C rfl 1 rfl dX8_output_0 ?_
  refine zm_if_lt (tgt := 15) C dX8_output_1 (by decide) (fun z => ?_) (fun z => ?_)
  · replace w := w.1 z
    refine zm_iconst (v := (-1)) C (by decide) dX8_output_15 ?_
    exact zm_ireturn C Rt (by show nc ≤ 0; omega) (by show ns ≤ 0; omega) rfl dX8_output_16 w
  · replace w := w.2 z
    refine zm_iload_n C rfl 1 rfl dX8_output_4 ?_
    refine zm_aload_n C rfl 0 rfl dX8_output_5 ?_
    refine zm_getR C ff_X8_14 dX8_output_6 w (fun v1 w => ?_)
    refine zm_getI C ff_X8_56 dX8_output_9 w (fun v2 w => ?_)
    refine zm_icmp_lt (tgt := 17) C dX8_output_12 (by decide) (fun z => ?_) (fun z => ?_)
    · replace w := w.1 z
      refine zm_aload_n C rfl 0 rfl dX8_output_17 ?_
      refine zm_getR C ff_X8_14 dX8_output_18 w (fun v3 w => ?_)
      refine zm_getR C ff_X8_70 dX8_output_21 w (fun v4 w => ?_)
      refine zm_iload_n C rfl 1 rfl dX8_output_24 ?_
      refine zm_ldB C dX8_output_25 w (fun v5 w => ?_)
      refine zm_sipush (v := nI 255) C (by decide) dX8_output_26 ?_
      refine zm_iand C dX8_output_29 ?_
      exact zm_ireturn C Rt (by show nc ≤ 0; omega) (by show ns ≤ 0; omega) rfl dX8_output_30 w
    · replace w := w.2 z
      refine zm_iconst (v := (-1)) C (by decide) dX8_output_15 ?_
      exact zm_ireturn C Rt (by show nc ≤ 0; omega) (by show ns ≤ 0; omega) rfl dX8_output_16 w
set_option maxRecDepth 20000 in
theorem B_X8_bitsOf_0 {E : zm_E} {K : zm_K} {Post : zm_Po} {nc ns : Nat} (C : zm_Cx E K cX8_bitsOf RX8 1 0 0 0 3) (Rt : zm_Rt E Post 0 0 (some .int)) {l0 : Int64} {h : zm_H} (w : zm_Go E nc ns 2 [(0, .long l0), (2, .int (nI 0))] [] h) : zm_Go E nc ns 0 [(0, .long l0)] [] h := by
  refine zm_iconst (v := nI 0) C (by decide) dX8_bitsOf_0 ?_
  refine zm_istore_n (L' := [(0, .long l0), (2, .int (nI 0))]) C rfl (by decide) [1, 0] dX8_bitsOf_1 rfl ?_
  exact w
set_option maxRecDepth 20000 in
theorem B_X8_bitsOf_2 {E : zm_E} {K : zm_K} {Post : zm_Po} {nc ns : Nat} (C : zm_Cx E K cX8_bitsOf RX8 1 0 0 0 3) (Rt : zm_Rt E Post 0 0 (some .int)) {l0 : Int64} {i2 : Int32} {h : zm_H} (hnc : nc ≤ 0) (hns : ns ≤ 0) (w : ((nI 64) ≤ i2 → Post (some (.int i2)) h) ∧ (¬ (nI 64) ≤ i2 → ((lg_cmp ((l0.toUInt64 >>> (i2.toInt64.toUInt64 &&& Int64.toUInt64 63)).toInt64) (lN 0)) = 0 → Post (some (.int i2)) h) ∧ (¬ (lg_cmp ((l0.toUInt64 >>> (i2.toInt64.toUInt64 &&& Int64.toUInt64 63)).toInt64) (lN 0)) = 0 → zm_Go E nc ns 2 [(0, .long l0), (2, .int (i2 + (nI 1)))] [] h))) : zm_Go E nc ns 2 [(0, .long l0), (2, .int i2)] [] h := by
  refine zm_iload_n C rfl 1 rfl dX8_bitsOf_2 ?_
  refine zm_bipush (v := nI 64) C (by decide) dX8_bitsOf_3 ?_
  refine zm_icmp_ge (tgt := 22) C dX8_bitsOf_5 (by decide) (fun z => ?_) (fun z => ?_)
  · replace w := w.1 z
    refine zm_iload_n C rfl 1 rfl dX8_bitsOf_22 ?_
    exact zm_ireturn C Rt (by show nc ≤ 0; omega) (by show ns ≤ 0; omega) rfl dX8_bitsOf_23 w
  · replace w := w.2 z
    refine zm_lload_n C rfl 0 rfl dX8_bitsOf_8 ?_
    refine zm_iload_n C rfl 1 rfl dX8_bitsOf_9 ?_
    refine zm_lushr C dX8_bitsOf_10 ?_
    refine zm_lconst (v := lN 0) C (by decide) dX8_bitsOf_11 ?_
    refine zm_lcmp C dX8_bitsOf_12 ?_
    refine zm_if_eq (tgt := 22) C dX8_bitsOf_13 (by decide) (fun z => ?_) (fun z => ?_)
    · replace w := w.1 z
      refine zm_iload_n C rfl 1 rfl dX8_bitsOf_22 ?_
      exact zm_ireturn C Rt (by show nc ≤ 0; omega) (by show ns ≤ 0; omega) rfl dX8_bitsOf_23 w
    · replace w := w.2 z
      refine zm_iinc (L' := [(0, .long l0), (2, .int (i2 + (nI 1)))]) C (by decide) 1 [1, 0] dX8_bitsOf_16 rfl rfl rfl ?_
      refine zm_goto (tgt := 2) C dX8_bitsOf_19 (by decide) ?_
      exact w
set_option maxRecDepth 20000 in
theorem B_X9_init_0 {E : zm_E} {K : zm_K} {Post : zm_Po} {nc ns : Nat} (C : zm_Cx E K cX9_init RX9 1 26 13 176011 1) (Rt : zm_Rt E Post 13 176011 none) (hin : zm_in E) {a0 : Nat} {h : zm_H} (hnc : nc + 1 + 1 + 1 + 1 + 1 + 1 + 1 + 1 + 1 + 1 + 1 + 1 + 1 ≤ 13) (hns : ns + 1001 + 1001 + 1001 + 20000 + 20000 + 20000 + 24000 + 24000 + 60000 + 2000 + 1008 + 1000 + 1000 ≤ 176011) (w : ¬ (nI 1001) < 0 ∧ 1001 * componentBytes .int ≤ 536870912 ∧ ns + 1001 ≤ 176011 ∧ ∀ v1, h v1 = none → zm_pf (zm_set h v1 (.inl (K.2.2 1, 1001, .inl (fun _ => 0)))) a0 9 1 (.ref v1) fun h1 => ¬ (nI 1001) < 0 ∧ 1001 * componentBytes .int ≤ 536870912 ∧ (ns + 1001) + 1001 ≤ 176011 ∧ ∀ v2, h1 v2 = none → zm_pf (zm_set h1 v2 (.inl (K.2.2 1, 1001, .inl (fun _ => 0)))) a0 9 2 (.ref v2) fun h2 => ¬ (nI 1001) < 0 ∧ 1001 * componentBytes .int ≤ 536870912 ∧ (ns + 1001 + 1001) + 1001 ≤ 176011 ∧ ∀ v3, h2 v3 = none → zm_pf (zm_set h2 v3 (.inl (K.2.2 1, 1001, .inl (fun _ => 0)))) a0 9 3 (.ref v3) fun h3 => ¬ (nI 20000) < 0 ∧ 20000 * componentBytes .int ≤ 536870912 ∧ (ns + 1001 + 1001 + 1001) + 20000 ≤ 176011 ∧ ∀ v4, h3 v4 = none → zm_pf (zm_set h3 v4 (.inl (K.2.2 1, 20000, .inl (fun _ => 0)))) a0 9 4 (.ref v4) fun h4 => ¬ (nI 20000) < 0 ∧ 20000 * componentBytes .int ≤ 536870912 ∧ (ns + 1001 + 1001 + 1001 + 20000) + 20000 ≤ 176011 ∧ ∀ v5, h4 v5 = none → zm_pf (zm_set h4 v5 (.inl (K.2.2 1, 20000, .inl (fun _ => 0)))) a0 9 5 (.ref v5) fun h5 => ¬ (nI 20000) < 0 ∧ 20000 * componentBytes .int ≤ 536870912 ∧ (ns + 1001 + 1001 + 1001 + 20000 + 20000) + 20000 ≤ 176011 ∧ ∀ v6, h5 v6 = none → zm_pf (zm_set h5 v6 (.inl (K.2.2 1, 20000, .inl (fun _ => 0)))) a0 9 6 (.ref v6) fun h6 => ¬ (nI 24000) < 0 ∧ 24000 * componentBytes .int ≤ 536870912 ∧ (ns + 1001 + 1001 + 1001 + 20000 + 20000 + 20000) + 24000 ≤ 176011 ∧ ∀ v7, h6 v7 = none → zm_pf (zm_set h6 v7 (.inl (K.2.2 1, 24000, .inl (fun _ => 0)))) a0 9 10 (.ref v7) fun h7 => ¬ (nI 24000) < 0 ∧ 24000 * componentBytes .int ≤ 536870912 ∧ (ns + 1001 + 1001 + 1001 + 20000 + 20000 + 20000 + 24000) + 24000 ≤ 176011 ∧ ∀ v8, h7 v8 = none → zm_pf (zm_set h7 v8 (.inl (K.2.2 1, 24000, .inl (fun _ => 0)))) a0 9 11 (.ref v8) fun h8 => ¬ (nI 60000) < 0 ∧ 60000 * componentBytes .int ≤ 536870912 ∧ (ns + 1001 + 1001 + 1001 + 20000 + 20000 + 20000 + 24000 + 24000) + 60000 ≤ 176011 ∧ ∀ v9, h8 v9 = none → zm_pf (zm_set h8 v9 (.inl (K.2.2 1, 60000, .inl (fun _ => 0)))) a0 9 12 (.ref v9) fun h9 => ¬ (nI 2000) < 0 ∧ 2000 * componentBytes .long ≤ 536870912 ∧ (ns + 1001 + 1001 + 1001 + 20000 + 20000 + 20000 + 24000 + 24000 + 60000) + 2000 ≤ 176011 ∧ ∀ v10, h9 v10 = none → zm_pf (zm_set h9 v10 (.inl (K.2.2 2, 2000, .inr (.inl (fun _ => 0))))) a0 9 18 (.ref v10) fun h10 => ¬ (nI 1008) < 0 ∧ 1008 * componentBytes .int ≤ 536870912 ∧ (ns + 1001 + 1001 + 1001 + 20000 + 20000 + 20000 + 24000 + 24000 + 60000 + 2000) + 1008 ≤ 176011 ∧ ∀ v11, h10 v11 = none → zm_pf (zm_set h10 v11 (.inl (K.2.2 1, 1008, .inl (fun _ => 0)))) a0 9 20 (.ref v11) fun h11 => ¬ (nI 1000) < 0 ∧ 1000 * componentBytes .int ≤ 536870912 ∧ (ns + 1001 + 1001 + 1001 + 20000 + 20000 + 20000 + 24000 + 24000 + 60000 + 2000 + 1008) + 1000 ≤ 176011 ∧ ∀ v12, h11 v12 = none → zm_pf (zm_set h11 v12 (.inl (K.2.2 1, 1000, .inl (fun _ => 0)))) a0 9 21 (.ref v12) fun h12 => ¬ (nI 1000) < 0 ∧ 1000 * componentBytes .int ≤ 536870912 ∧ (ns + 1001 + 1001 + 1001 + 20000 + 20000 + 20000 + 24000 + 24000 + 60000 + 2000 + 1008 + 1000) + 1000 ≤ 176011 ∧ ∀ v13, h12 v13 = none → zm_pf (zm_set h12 v13 (.inl (K.2.2 1, 1000, .inl (fun _ => 0)))) a0 9 22 (.ref v13) fun h13 => Post none h13) : zm_Go E nc ns 0 [(0, .ref a0)] [] h := by
  refine zm_aload_n C rfl 0 rfl dX9_init_0 ?_
  refine zm_objInit C (zm_inG (by decide +kernel) rfl) (zm_inG (by decide +kernel) rfl) zi_objInit (by decide) (by decide) (Nat.le_of_ble_eq_true rfl) dX9_init_1 ?_
  refine zm_aload_n C rfl 0 rfl dX9_init_4 ?_
  refine zm_sipush (v := nI 1001) C (by decide) dX9_init_5 ?_
  obtain ⟨g1, g2, g3, w⟩ := w
  refine zm_newa (ty := .int) (N := 1001) (a0 := (1001, .inl (fun _ => 0))) C 1 rfl (fun _ => rfl) (fun _ _ z => z) (zm_inG (by decide +kernel) rfl) (fun _ => rfl) dX9_init_8 g1 (by decide) g2 (by show nc + 1 ≤ 13; omega) g3 (fun v1 hq => ?_)
  replace w := w v1 hq
  refine zm_putQ C hin ff_X9_7 ft_X9 fp_X9_9_1 rfl rfl dX9_init_10 w (fun h1 w => ?_)
  refine zm_aload_n C rfl 0 rfl dX9_init_13 ?_
  refine zm_sipush (v := nI 1001) C (by decide) dX9_init_14 ?_
  obtain ⟨g1, g2, g3, w⟩ := w
  refine zm_newa (ty := .int) (N := 1001) (a0 := (1001, .inl (fun _ => 0))) C 1 rfl (fun _ => rfl) (fun _ _ z => z) (zm_inG (by decide +kernel) rfl) (fun _ => rfl) dX9_init_17 g1 (by decide) g2 (by show nc + 1 + 1 ≤ 13; omega) g3 (fun v2 hq => ?_)
  replace w := w v2 hq
  refine zm_putQ C hin ff_X9_13 ft_X9 fp_X9_9_2 rfl rfl dX9_init_19 w (fun h2 w => ?_)
  refine zm_aload_n C rfl 0 rfl dX9_init_22 ?_
  refine zm_sipush (v := nI 1001) C (by decide) dX9_init_23 ?_
  obtain ⟨g1, g2, g3, w⟩ := w
  refine zm_newa (ty := .int) (N := 1001) (a0 := (1001, .inl (fun _ => 0))) C 1 rfl (fun _ => rfl) (fun _ _ z => z) (zm_inG (by decide +kernel) rfl) (fun _ => rfl) dX9_init_26 g1 (by decide) g2 (by show nc + 1 + 1 + 1 ≤ 13; omega) g3 (fun v3 hq => ?_)
  replace w := w v3 hq
  refine zm_putQ C hin ff_X9_16 ft_X9 fp_X9_9_3 rfl rfl dX9_init_28 w (fun h3 w => ?_)
  refine zm_aload_n C rfl 0 rfl dX9_init_31 ?_
  refine zm_sipush (v := nI 20000) C (by decide) dX9_init_32 ?_
  obtain ⟨g1, g2, g3, w⟩ := w
  refine zm_newa (ty := .int) (N := 20000) (a0 := (20000, .inl (fun _ => 0))) C 1 rfl (fun _ => rfl) (fun _ _ z => z) (zm_inG (by decide +kernel) rfl) (fun _ => rfl) dX9_init_35 g1 (by decide) g2 (by show nc + 1 + 1 + 1 + 1 ≤ 13; omega) g3 (fun v4 hq => ?_)
  replace w := w v4 hq
  refine zm_putQ C hin ff_X9_19 ft_X9 fp_X9_9_4 rfl rfl dX9_init_37 w (fun h4 w => ?_)
  refine zm_aload_n C rfl 0 rfl dX9_init_40 ?_
  refine zm_sipush (v := nI 20000) C (by decide) dX9_init_41 ?_
  obtain ⟨g1, g2, g3, w⟩ := w
  refine zm_newa (ty := .int) (N := 20000) (a0 := (20000, .inl (fun _ => 0))) C 1 rfl (fun _ => rfl) (fun _ _ z => z) (zm_inG (by decide +kernel) rfl) (fun _ => rfl) dX9_init_44 g1 (by decide) g2 (by show nc + 1 + 1 + 1 + 1 + 1 ≤ 13; omega) g3 (fun v5 hq => ?_)
  replace w := w v5 hq
  refine zm_putQ C hin ff_X9_22 ft_X9 fp_X9_9_5 rfl rfl dX9_init_46 w (fun h5 w => ?_)
  refine zm_aload_n C rfl 0 rfl dX9_init_49 ?_
  refine zm_sipush (v := nI 20000) C (by decide) dX9_init_50 ?_
  obtain ⟨g1, g2, g3, w⟩ := w
  refine zm_newa (ty := .int) (N := 20000) (a0 := (20000, .inl (fun _ => 0))) C 1 rfl (fun _ => rfl) (fun _ _ z => z) (zm_inG (by decide +kernel) rfl) (fun _ => rfl) dX9_init_53 g1 (by decide) g2 (by show nc + 1 + 1 + 1 + 1 + 1 + 1 ≤ 13; omega) g3 (fun v6 hq => ?_)
  replace w := w v6 hq
  refine zm_putQ C hin ff_X9_25 ft_X9 fp_X9_9_6 rfl rfl dX9_init_55 w (fun h6 w => ?_)
  refine zm_aload_n C rfl 0 rfl dX9_init_58 ?_
  refine zm_sipush (v := nI 24000) C (by decide) dX9_init_59 ?_
  obtain ⟨g1, g2, g3, w⟩ := w
  refine zm_newa (ty := .int) (N := 24000) (a0 := (24000, .inl (fun _ => 0))) C 1 rfl (fun _ => rfl) (fun _ _ z => z) (zm_inG (by decide +kernel) rfl) (fun _ => rfl) dX9_init_62 g1 (by decide) g2 (by show nc + 1 + 1 + 1 + 1 + 1 + 1 + 1 ≤ 13; omega) g3 (fun v7 hq => ?_)
  replace w := w v7 hq
  refine zm_putQ C hin ff_X9_28 ft_X9 fp_X9_9_10 rfl rfl dX9_init_64 w (fun h7 w => ?_)
  refine zm_aload_n C rfl 0 rfl dX9_init_67 ?_
  refine zm_sipush (v := nI 24000) C (by decide) dX9_init_68 ?_
  obtain ⟨g1, g2, g3, w⟩ := w
  refine zm_newa (ty := .int) (N := 24000) (a0 := (24000, .inl (fun _ => 0))) C 1 rfl (fun _ => rfl) (fun _ _ z => z) (zm_inG (by decide +kernel) rfl) (fun _ => rfl) dX9_init_71 g1 (by decide) g2 (by show nc + 1 + 1 + 1 + 1 + 1 + 1 + 1 + 1 ≤ 13; omega) g3 (fun v8 hq => ?_)
  replace w := w v8 hq
  refine zm_putQ C hin ff_X9_31 ft_X9 fp_X9_9_11 rfl rfl dX9_init_73 w (fun h8 w => ?_)
  refine zm_aload_n C rfl 0 rfl dX9_init_76 ?_
  refine zm_ldc (v := nI 60000) C (zm_inG (by decide +kernel) rfl) dX9_init_77 ?_
  obtain ⟨g1, g2, g3, w⟩ := w
  refine zm_newa (ty := .int) (N := 60000) (a0 := (60000, .inl (fun _ => 0))) C 1 rfl (fun _ => rfl) (fun _ _ z => z) (zm_inG (by decide +kernel) rfl) (fun _ => rfl) dX9_init_79 g1 (by decide) g2 (by show nc + 1 + 1 + 1 + 1 + 1 + 1 + 1 + 1 + 1 ≤ 13; omega) g3 (fun v9 hq => ?_)
  replace w := w v9 hq
  refine zm_putQ C hin ff_X9_35 ft_X9 fp_X9_9_12 rfl rfl dX9_init_81 w (fun h9 w => ?_)
  refine zm_aload_n C rfl 0 rfl dX9_init_84 ?_
  refine zm_sipush (v := nI 2000) C (by decide) dX9_init_85 ?_
  obtain ⟨g1, g2, g3, w⟩ := w
  refine zm_newa (ty := .long) (N := 2000) (a0 := (2000, .inr (.inl (fun _ => 0)))) C 2 rfl (fun _ => rfl) (fun _ _ z => z) (zm_inG (by decide +kernel) rfl) (fun _ => rfl) dX9_init_88 g1 (by decide) g2 (by show nc + 1 + 1 + 1 + 1 + 1 + 1 + 1 + 1 + 1 + 1 ≤ 13; omega) g3 (fun v10 hq => ?_)
  replace w := w v10 hq
  refine zm_putQ C hin ff_X9_38 ft_X9 fp_X9_9_18 rfl rfl dX9_init_90 w (fun h10 w => ?_)
  refine zm_aload_n C rfl 0 rfl dX9_init_93 ?_
  refine zm_sipush (v := nI 1008) C (by decide) dX9_init_94 ?_
  obtain ⟨g1, g2, g3, w⟩ := w
  refine zm_newa (ty := .int) (N := 1008) (a0 := (1008, .inl (fun _ => 0))) C 1 rfl (fun _ => rfl) (fun _ _ z => z) (zm_inG (by decide +kernel) rfl) (fun _ => rfl) dX9_init_97 g1 (by decide) g2 (by show nc + 1 + 1 + 1 + 1 + 1 + 1 + 1 + 1 + 1 + 1 + 1 ≤ 13; omega) g3 (fun v11 hq => ?_)
  replace w := w v11 hq
  refine zm_putQ C hin ff_X9_42 ft_X9 fp_X9_9_20 rfl rfl dX9_init_99 w (fun h11 w => ?_)
  refine zm_aload_n C rfl 0 rfl dX9_init_102 ?_
  refine zm_sipush (v := nI 1000) C (by decide) dX9_init_103 ?_
  obtain ⟨g1, g2, g3, w⟩ := w
  refine zm_newa (ty := .int) (N := 1000) (a0 := (1000, .inl (fun _ => 0))) C 1 rfl (fun _ => rfl) (fun _ _ z => z) (zm_inG (by decide +kernel) rfl) (fun _ => rfl) dX9_init_106 g1 (by decide) g2 (by show nc + 1 + 1 + 1 + 1 + 1 + 1 + 1 + 1 + 1 + 1 + 1 + 1 ≤ 13; omega) g3 (fun v12 hq => ?_)
  replace w := w v12 hq
  refine zm_putQ C hin ff_X9_45 ft_X9 fp_X9_9_21 rfl rfl dX9_init_108 w (fun h12 w => ?_)
  refine zm_aload_n C rfl 0 rfl dX9_init_111 ?_
  refine zm_sipush (v := nI 1000) C (by decide) dX9_init_112 ?_
  obtain ⟨g1, g2, g3, w⟩ := w
  refine zm_newa (ty := .int) (N := 1000) (a0 := (1000, .inl (fun _ => 0))) C 1 rfl (fun _ => rfl) (fun _ _ z => z) (zm_inG (by decide +kernel) rfl) (fun _ => rfl) dX9_init_115 g1 (by decide) g2 (by show nc + 1 + 1 + 1 + 1 + 1 + 1 + 1 + 1 + 1 + 1 + 1 + 1 + 1 ≤ 13; omega) g3 (fun v13 hq => ?_)
  replace w := w v13 hq
  refine zm_putQ C hin ff_X9_48 ft_X9 fp_X9_9_22 rfl rfl dX9_init_117 w (fun h13 w => ?_)
  exact zm_return C Rt (by show nc + 1 + 1 + 1 + 1 + 1 + 1 + 1 + 1 + 1 + 1 + 1 + 1 + 1 ≤ 13; omega) (by show ns + 1001 + 1001 + 1001 + 20000 + 20000 + 20000 + 24000 + 24000 + 60000 + 2000 + 1008 + 1000 + 1000 ≤ 176011; omega) dX9_init_120 w
set_option maxRecDepth 20000 in
theorem B_X9_put_0 {E : zm_E} {K : zm_K} {Post : zm_Po} {nc ns : Nat} (C : zm_Cx E K cX9_put RX9 1 0 0 0 2) (Rt : zm_Rt E Post 0 0 none) {a0 : Nat} {i1 : Int32} {h : zm_H} (hnc : nc ≤ 0) (hns : ns ≤ 0) (w : zm_gR h a0 9 12 fun v1 => zm_gI h a0 9 15 fun v2 => zm_sI K h v1 v2 (i1 &&& (nI 255)) fun h1 => zm_gI h1 a0 9 15 fun v3 => zm_pf h1 a0 9 15 (.int (v3 + (nI 1))) fun h2 => Post none h2) : zm_Go E nc ns 0 [(0, .ref a0), (1, .int i1)] [] h := by
  refine zm_aload_n C rfl 0 rfl dX9_put_0 ?_
  refine zm_getR C ff_X9_35 dX9_put_1 w (fun v1 w => ?_)
  refine zm_aload_n C rfl 0 rfl dX9_put_4 ?_
  refine zm_getI C ff_X9_55 dX9_put_5 w (fun v2 w => ?_)
  refine zm_iload_n C rfl 1 rfl dX9_put_8 ?_
  refine zm_sipush (v := nI 255) C (by decide) dX9_put_9 ?_
  refine zm_iand C dX9_put_12 ?_
  refine zm_stI C dX9_put_13 w (fun h1 w => ?_)
  refine zm_aload_n C rfl 0 rfl dX9_put_14 ?_
  refine zm_dup C rfl dX9_put_15 ?_
  refine zm_getI C ff_X9_55 dX9_put_16 w (fun v3 w => ?_)
  refine zm_iconst (v := nI 1) C (by decide) dX9_put_19 ?_
  refine zm_iadd C dX9_put_20 ?_
  refine zm_put C ff_X9_55 ft_X9 fp_X9_9_15 rfl rfl dX9_put_21 w (fun h2 w => ?_)
  exact zm_return C Rt (by show nc ≤ 0; omega) (by show ns ≤ 0; omega) dX9_put_24 w
set_option maxRecDepth 20000 in
theorem B_X9_varint_0 {E : zm_E} {K : zm_K} {Post : zm_Po} {nc ns : Nat} (C : zm_Cx E K cX9_varint RX9 1 0 0 0 6) (Rt : zm_Rt E Post 0 0 (some .long)) {a0 : Nat} {i1 : Int32} {h : zm_H} (w : zm_Go E nc ns 5 [(0, .ref a0), (1, .int i1), (2, .long (lN 0)), (4, .int (nI 0))] [] h) : zm_Go E nc ns 0 [(0, .ref a0), (1, .int i1)] [] h := by
  refine zm_lconst (v := lN 0) C (by decide) dX9_varint_0 ?_
  refine zm_lstore_n (L' := [(0, .ref a0), (1, .int i1), (2, .long (lN 0))]) C rfl (by decide) [1, 2, 0] dX9_varint_1 rfl ?_
  refine zm_iconst (v := nI 0) C (by decide) dX9_varint_2 ?_
  refine zm_istore (L' := [(0, .ref a0), (1, .int i1), (2, .long (lN 0)), (4, .int (nI 0))]) C (by decide) [1, 2, 3, 0] dX9_varint_3 rfl ?_
  exact w
set_option maxRecDepth 20000 in
theorem B_X9_varint_5 {E : zm_E} {K : zm_K} {Post : zm_Po} {nc ns : Nat} (C : zm_Cx E K cX9_varint RX9 1 0 0 0 6) (Rt : zm_Rt E Post 0 0 (some .long)) {a0 : Nat} {i1 : Int32} {l2 : Int64} {i4 : Int32} {h : zm_H} (hnc : nc ≤ 0) (hns : ns ≤ 0) (w : zm_gI h a0 9 17 fun v1 => (¬ v1 = 0 → Post (some (.long (lN 0))) h) ∧ (v1 = 0 → zm_gI h a0 9 16 fun v2 => (v2 < i1 → zm_gR h a0 9 11 fun v3 => zm_gI h a0 9 16 fun v4 => zm_ld K 1 h v3 v4 fun v5 => zm_gI h a0 9 16 fun v6 => zm_pf h a0 9 16 (.int (v6 + (nI 1))) fun h1 => (¬ i4 = (nI 9) → (i4 ≤ 0 → ((nI 128) ≤ v5 → zm_Go E nc ns 5 [(0, .ref a0), (1, .int i1), (2, .long (l2 ||| (((v5 &&& (nI 127)).toInt64) <<< (((nI 7) * i4).toInt64 &&& 63)))), (4, .int (i4 + (nI 1)))] [] h1) ∧ (¬ (nI 128) ≤ v5 → Post (some (.long (l2 ||| (((v5 &&& (nI 127)).toInt64) <<< (((nI 7) * i4).toInt64 &&& 63))))) h1)) ∧ (¬ i4 ≤ 0 → (¬ v5 = 0 → ((nI 128) ≤ v5 → zm_Go E nc ns 5 [(0, .ref a0), (1, .int i1), (2, .long (l2 ||| (((v5 &&& (nI 127)).toInt64) <<< (((nI 7) * i4).toInt64 &&& 63)))), (4, .int (i4 + (nI 1)))] [] h1) ∧ (¬ (nI 128) ≤ v5 → Post (some (.long (l2 ||| (((v5 &&& (nI 127)).toInt64) <<< (((nI 7) * i4).toInt64 &&& 63))))) h1)) ∧ (v5 = 0 → zm_pf h1 a0 9 17 (.int (nI 2)) fun h2 => zm_Go E nc ns 5 [(0, .ref a0), (1, .int i1), (2, .long l2), (4, .int i4)] [] h2))) ∧ (i4 = (nI 9) → ((nI 1) < v5 → zm_pf h1 a0 9 17 (.int (nI 2)) fun h3 => zm_Go E nc ns 5 [(0, .ref a0), (1, .int i1), (2, .long l2), (4, .int i4)] [] h3) ∧ (¬ (nI 1) < v5 → (i4 ≤ 0 → ((nI 128) ≤ v5 → zm_Go E nc ns 5 [(0, .ref a0), (1, .int i1), (2, .long (l2 ||| (((v5 &&& (nI 127)).toInt64) <<< (((nI 7) * i4).toInt64 &&& 63)))), (4, .int (i4 + (nI 1)))] [] h1) ∧ (¬ (nI 128) ≤ v5 → Post (some (.long (l2 ||| (((v5 &&& (nI 127)).toInt64) <<< (((nI 7) * i4).toInt64 &&& 63))))) h1)) ∧ (¬ i4 ≤ 0 → (¬ v5 = 0 → ((nI 128) ≤ v5 → zm_Go E nc ns 5 [(0, .ref a0), (1, .int i1), (2, .long (l2 ||| (((v5 &&& (nI 127)).toInt64) <<< (((nI 7) * i4).toInt64 &&& 63)))), (4, .int (i4 + (nI 1)))] [] h1) ∧ (¬ (nI 128) ≤ v5 → Post (some (.long (l2 ||| (((v5 &&& (nI 127)).toInt64) <<< (((nI 7) * i4).toInt64 &&& 63))))) h1)) ∧ (v5 = 0 → zm_pf h1 a0 9 17 (.int (nI 2)) fun h4 => zm_Go E nc ns 5 [(0, .ref a0), (1, .int i1), (2, .long l2), (4, .int i4)] [] h4))))) ∧ (¬ v2 < i1 → zm_pf h a0 9 17 (.int (nI 1)) fun h5 => zm_Go E nc ns 5 [(0, .ref a0), (1, .int i1), (2, .long l2), (4, .int i4)] [] h5))) : zm_Go E nc ns 5 [(0, .ref a0), (1, .int i1), (2, .long l2), (4, .int i4)] [] h := by
  refine zm_aload_n C rfl 0 rfl dX9_varint_5 ?_
  refine zm_getI C ff_X9_58 dX9_varint_6 w (fun v1 w => ?_)
  refine zm_if_ne (tgt := 111) C dX9_varint_9 (by decide) (fun z => ?_) (fun z => ?_)
  · replace w := w.1 z
    refine zm_lconst (v := lN 0) C (by decide) dX9_varint_111 ?_
    exact zm_lreturn C Rt (by show nc ≤ 0; omega) (by show ns ≤ 0; omega) dX9_varint_112 w
  · replace w := w.2 z
    refine zm_aload_n C rfl 0 rfl dX9_varint_12 ?_
    refine zm_getI C ff_X9_61 dX9_varint_13 w (fun v2 w => ?_)
    refine zm_iload_n C rfl 1 rfl dX9_varint_16 ?_
    refine zm_icmp_lt (tgt := 28) C dX9_varint_17 (by decide) (fun z => ?_) (fun z => ?_)
    · replace w := w.1 z
      refine zm_aload_n C rfl 0 rfl dX9_varint_28 ?_
      refine zm_getR C ff_X9_31 dX9_varint_29 w (fun v3 w => ?_)
      refine zm_aload_n C rfl 0 rfl dX9_varint_32 ?_
      refine zm_getI C ff_X9_61 dX9_varint_33 w (fun v4 w => ?_)
      refine zm_ldI C dX9_varint_36 w (fun v5 w => ?_)
      refine zm_istore (L' := [(0, .ref a0), (1, .int i1), (2, .long l2), (4, .int i4), (5, .int v5)]) C (by decide) [1, 2, 3, 4, 0] dX9_varint_37 rfl ?_
      refine zm_aload_n C rfl 0 rfl dX9_varint_39 ?_
      refine zm_dup C rfl dX9_varint_40 ?_
      refine zm_getI C ff_X9_61 dX9_varint_41 w (fun v6 w => ?_)
      refine zm_iconst (v := nI 1) C (by decide) dX9_varint_44 ?_
      refine zm_iadd C dX9_varint_45 ?_
      refine zm_put C ff_X9_61 ft_X9 fp_X9_9_16 rfl rfl dX9_varint_46 w (fun h1 w => ?_)
      refine zm_iload C 3 rfl dX9_varint_49 ?_
      refine zm_bipush (v := nI 9) C (by decide) dX9_varint_51 ?_
      refine zm_icmp_ne (tgt := 62) C dX9_varint_53 (by decide) (fun z => ?_) (fun z => ?_)
      · replace w := w.1 z
        refine zm_iload C 3 rfl dX9_varint_62 ?_
        refine zm_if_le (tgt := 80) C dX9_varint_64 (by decide) (fun z => ?_) (fun z => ?_)
        · replace w := w.1 z
          refine zm_lload_n C rfl 2 rfl dX9_varint_80 ?_
          refine zm_iload C 4 rfl dX9_varint_81 ?_
          refine zm_bipush (v := nI 127) C (by decide) dX9_varint_83 ?_
          refine zm_iand C dX9_varint_85 ?_
          refine zm_i2l C dX9_varint_86 ?_
          refine zm_bipush (v := nI 7) C (by decide) dX9_varint_87 ?_
          refine zm_iload C 3 rfl dX9_varint_89 ?_
          refine zm_imul C dX9_varint_91 ?_
          refine zm_lshl C dX9_varint_92 ?_
          refine zm_lor C dX9_varint_93 ?_
          refine zm_lstore_n (L' := [(0, .ref a0), (1, .int i1), (2, .long (l2 ||| (((v5 &&& (nI 127)).toInt64) <<< (((nI 7) * i4).toInt64 &&& 63)))), (4, .int i4), (5, .int v5)]) C rfl (by decide) [1, 2, 0, 3, 4] dX9_varint_94 rfl ?_
          refine zm_iload C 4 rfl dX9_varint_95 ?_
          refine zm_sipush (v := nI 128) C (by decide) dX9_varint_97 ?_
          refine zm_icmp_ge (tgt := 105) C dX9_varint_100 (by decide) (fun z => ?_) (fun z => ?_)
          · replace w := w.1 z
            refine zm_iinc (L' := [(0, .ref a0), (1, .int i1), (2, .long (l2 ||| (((v5 &&& (nI 127)).toInt64) <<< (((nI 7) * i4).toInt64 &&& 63)))), (4, .int (i4 + (nI 1))), (5, .int v5)]) C (by decide) 3 [1, 2, 3, 0, 4] dX9_varint_105 rfl rfl rfl ?_
            refine zm_goto (tgt := 5) C dX9_varint_108 (by decide) ?_
            exact zm_loc [0, 1, 2, 3] rfl w
          · replace w := w.2 z
            refine zm_lload_n C rfl 2 rfl dX9_varint_103 ?_
            exact zm_lreturn C Rt (by show nc ≤ 0; omega) (by show ns ≤ 0; omega) dX9_varint_104 w
        · replace w := w.2 z
          refine zm_iload C 4 rfl dX9_varint_67 ?_
          refine zm_if_ne (tgt := 80) C dX9_varint_69 (by decide) (fun z => ?_) (fun z => ?_)
          · replace w := w.1 z
            refine zm_lload_n C rfl 2 rfl dX9_varint_80 ?_
            refine zm_iload C 4 rfl dX9_varint_81 ?_
            refine zm_bipush (v := nI 127) C (by decide) dX9_varint_83 ?_
            refine zm_iand C dX9_varint_85 ?_
            refine zm_i2l C dX9_varint_86 ?_
            refine zm_bipush (v := nI 7) C (by decide) dX9_varint_87 ?_
            refine zm_iload C 3 rfl dX9_varint_89 ?_
            refine zm_imul C dX9_varint_91 ?_
            refine zm_lshl C dX9_varint_92 ?_
            refine zm_lor C dX9_varint_93 ?_
            refine zm_lstore_n (L' := [(0, .ref a0), (1, .int i1), (2, .long (l2 ||| (((v5 &&& (nI 127)).toInt64) <<< (((nI 7) * i4).toInt64 &&& 63)))), (4, .int i4), (5, .int v5)]) C rfl (by decide) [1, 2, 0, 3, 4] dX9_varint_94 rfl ?_
            refine zm_iload C 4 rfl dX9_varint_95 ?_
            refine zm_sipush (v := nI 128) C (by decide) dX9_varint_97 ?_
            refine zm_icmp_ge (tgt := 105) C dX9_varint_100 (by decide) (fun z => ?_) (fun z => ?_)
            · replace w := w.1 z
              refine zm_iinc (L' := [(0, .ref a0), (1, .int i1), (2, .long (l2 ||| (((v5 &&& (nI 127)).toInt64) <<< (((nI 7) * i4).toInt64 &&& 63)))), (4, .int (i4 + (nI 1))), (5, .int v5)]) C (by decide) 3 [1, 2, 3, 0, 4] dX9_varint_105 rfl rfl rfl ?_
              refine zm_goto (tgt := 5) C dX9_varint_108 (by decide) ?_
              exact zm_loc [0, 1, 2, 3] rfl w
            · replace w := w.2 z
              refine zm_lload_n C rfl 2 rfl dX9_varint_103 ?_
              exact zm_lreturn C Rt (by show nc ≤ 0; omega) (by show ns ≤ 0; omega) dX9_varint_104 w
          · replace w := w.2 z
            refine zm_aload_n C rfl 0 rfl dX9_varint_72 ?_
            refine zm_iconst (v := nI 2) C (by decide) dX9_varint_73 ?_
            refine zm_put C ff_X9_58 ft_X9 fp_X9_9_17 rfl rfl dX9_varint_74 w (fun h2 w => ?_)
            refine zm_goto (tgt := 108) C dX9_varint_77 (by decide) ?_
            refine zm_goto (tgt := 5) C dX9_varint_108 (by decide) ?_
            exact zm_loc [0, 1, 2, 3] rfl w
      · replace w := w.2 z
        refine zm_iload C 4 rfl dX9_varint_56 ?_
        refine zm_iconst (v := nI 1) C (by decide) dX9_varint_58 ?_
        refine zm_icmp_gt (tgt := 72) C dX9_varint_59 (by decide) (fun z => ?_) (fun z => ?_)
        · replace w := w.1 z
          refine zm_aload_n C rfl 0 rfl dX9_varint_72 ?_
          refine zm_iconst (v := nI 2) C (by decide) dX9_varint_73 ?_
          refine zm_put C ff_X9_58 ft_X9 fp_X9_9_17 rfl rfl dX9_varint_74 w (fun h3 w => ?_)
          refine zm_goto (tgt := 108) C dX9_varint_77 (by decide) ?_
          refine zm_goto (tgt := 5) C dX9_varint_108 (by decide) ?_
          exact zm_loc [0, 1, 2, 3] rfl w
        · replace w := w.2 z
          refine zm_iload C 3 rfl dX9_varint_62 ?_
          refine zm_if_le (tgt := 80) C dX9_varint_64 (by decide) (fun z => ?_) (fun z => ?_)
          · replace w := w.1 z
            refine zm_lload_n C rfl 2 rfl dX9_varint_80 ?_
            refine zm_iload C 4 rfl dX9_varint_81 ?_
            refine zm_bipush (v := nI 127) C (by decide) dX9_varint_83 ?_
            refine zm_iand C dX9_varint_85 ?_
            refine zm_i2l C dX9_varint_86 ?_
            refine zm_bipush (v := nI 7) C (by decide) dX9_varint_87 ?_
            refine zm_iload C 3 rfl dX9_varint_89 ?_
            refine zm_imul C dX9_varint_91 ?_
            refine zm_lshl C dX9_varint_92 ?_
            refine zm_lor C dX9_varint_93 ?_
            refine zm_lstore_n (L' := [(0, .ref a0), (1, .int i1), (2, .long (l2 ||| (((v5 &&& (nI 127)).toInt64) <<< (((nI 7) * i4).toInt64 &&& 63)))), (4, .int i4), (5, .int v5)]) C rfl (by decide) [1, 2, 0, 3, 4] dX9_varint_94 rfl ?_
            refine zm_iload C 4 rfl dX9_varint_95 ?_
            refine zm_sipush (v := nI 128) C (by decide) dX9_varint_97 ?_
            refine zm_icmp_ge (tgt := 105) C dX9_varint_100 (by decide) (fun z => ?_) (fun z => ?_)
            · replace w := w.1 z
              refine zm_iinc (L' := [(0, .ref a0), (1, .int i1), (2, .long (l2 ||| (((v5 &&& (nI 127)).toInt64) <<< (((nI 7) * i4).toInt64 &&& 63)))), (4, .int (i4 + (nI 1))), (5, .int v5)]) C (by decide) 3 [1, 2, 3, 0, 4] dX9_varint_105 rfl rfl rfl ?_
              refine zm_goto (tgt := 5) C dX9_varint_108 (by decide) ?_
              exact zm_loc [0, 1, 2, 3] rfl w
            · replace w := w.2 z
              refine zm_lload_n C rfl 2 rfl dX9_varint_103 ?_
              exact zm_lreturn C Rt (by show nc ≤ 0; omega) (by show ns ≤ 0; omega) dX9_varint_104 w
          · replace w := w.2 z
            refine zm_iload C 4 rfl dX9_varint_67 ?_
            refine zm_if_ne (tgt := 80) C dX9_varint_69 (by decide) (fun z => ?_) (fun z => ?_)
            · replace w := w.1 z
              refine zm_lload_n C rfl 2 rfl dX9_varint_80 ?_
              refine zm_iload C 4 rfl dX9_varint_81 ?_
              refine zm_bipush (v := nI 127) C (by decide) dX9_varint_83 ?_
              refine zm_iand C dX9_varint_85 ?_
              refine zm_i2l C dX9_varint_86 ?_
              refine zm_bipush (v := nI 7) C (by decide) dX9_varint_87 ?_
              refine zm_iload C 3 rfl dX9_varint_89 ?_
              refine zm_imul C dX9_varint_91 ?_
              refine zm_lshl C dX9_varint_92 ?_
              refine zm_lor C dX9_varint_93 ?_
              refine zm_lstore_n (L' := [(0, .ref a0), (1, .int i1), (2, .long (l2 ||| (((v5 &&& (nI 127)).toInt64) <<< (((nI 7) * i4).toInt64 &&& 63)))), (4, .int i4), (5, .int v5)]) C rfl (by decide) [1, 2, 0, 3, 4] dX9_varint_94 rfl ?_
              refine zm_iload C 4 rfl dX9_varint_95 ?_
              refine zm_sipush (v := nI 128) C (by decide) dX9_varint_97 ?_
              refine zm_icmp_ge (tgt := 105) C dX9_varint_100 (by decide) (fun z => ?_) (fun z => ?_)
              · replace w := w.1 z
                refine zm_iinc (L' := [(0, .ref a0), (1, .int i1), (2, .long (l2 ||| (((v5 &&& (nI 127)).toInt64) <<< (((nI 7) * i4).toInt64 &&& 63)))), (4, .int (i4 + (nI 1))), (5, .int v5)]) C (by decide) 3 [1, 2, 3, 0, 4] dX9_varint_105 rfl rfl rfl ?_
                refine zm_goto (tgt := 5) C dX9_varint_108 (by decide) ?_
                exact zm_loc [0, 1, 2, 3] rfl w
              · replace w := w.2 z
                refine zm_lload_n C rfl 2 rfl dX9_varint_103 ?_
                exact zm_lreturn C Rt (by show nc ≤ 0; omega) (by show ns ≤ 0; omega) dX9_varint_104 w
            · replace w := w.2 z
              refine zm_aload_n C rfl 0 rfl dX9_varint_72 ?_
              refine zm_iconst (v := nI 2) C (by decide) dX9_varint_73 ?_
              refine zm_put C ff_X9_58 ft_X9 fp_X9_9_17 rfl rfl dX9_varint_74 w (fun h4 w => ?_)
              refine zm_goto (tgt := 108) C dX9_varint_77 (by decide) ?_
              refine zm_goto (tgt := 5) C dX9_varint_108 (by decide) ?_
              exact zm_loc [0, 1, 2, 3] rfl w
    · replace w := w.2 z
      refine zm_aload_n C rfl 0 rfl dX9_varint_20 ?_
      refine zm_iconst (v := nI 1) C (by decide) dX9_varint_21 ?_
      refine zm_put C ff_X9_58 ft_X9 fp_X9_9_17 rfl rfl dX9_varint_22 w (fun h5 w => ?_)
      refine zm_goto (tgt := 5) C dX9_varint_25 (by decide) ?_
      exact w
set_option maxRecDepth 20000 in
theorem B_X9_putVarint_0 {E : zm_E} {K : zm_K} {Post : zm_Po} {nc ns : Nat} (C : zm_Cx E K cX9_putVarint RX9 2 21 0 0 5) (Rt : zm_Rt E Post 0 0 none) {a0 : Nat} {l1 : Int64} {h : zm_H} (w : zm_Go E nc ns 2 [(0, .ref a0), (3, .long l1)] [] h) : zm_Go E nc ns 0 [(0, .ref a0), (1, .long l1)] [] h := by
  refine zm_lload_n C rfl 1 rfl dX9_putVarint_0 ?_
  refine zm_lstore_n (L' := [(0, .ref a0), (1, .long l1), (3, .long l1)]) C rfl (by decide) [1, 2, 0] dX9_putVarint_1 rfl ?_
  exact zm_loc [0, 2] rfl w
set_option maxRecDepth 20000 in
theorem B_X9_putVarint_2 {E : zm_E} {K : zm_K} {Post : zm_Po} {nc ns : Nat} (C : zm_Cx E K cX9_putVarint RX9 2 21 0 0 5) (Rt : zm_Rt E Post 0 0 none) {a0 : Nat} {l3 : Int64} {h : zm_H} (hnc : nc ≤ 0) (hns : ns ≤ 0) (w : ((lg_cmp l3 (lN 0)) < 0 → zm_rc h a0 9 ∧ zm_cv K M_X9_put [.ref a0, .int (((l3 &&& (lN 127)).toInt32) + (nI 128))] h fun h1 => zm_Go E nc ns 2 [(0, .ref a0), (3, .long ((l3.toUInt64 >>> ((nI 7).toInt64.toUInt64 &&& Int64.toUInt64 63)).toInt64))] [] h1) ∧ (¬ (lg_cmp l3 (lN 0)) < 0 → ((lg_cmp l3 (lN 127)) ≤ 0 → zm_rc h a0 9 ∧ zm_cv K M_X9_put [.ref a0, .int l3.toInt32] h fun h2 => Post none h2) ∧ (¬ (lg_cmp l3 (lN 127)) ≤ 0 → zm_rc h a0 9 ∧ zm_cv K M_X9_put [.ref a0, .int (((l3 &&& (lN 127)).toInt32) + (nI 128))] h fun h3 => zm_Go E nc ns 2 [(0, .ref a0), (3, .long ((l3.toUInt64 >>> ((nI 7).toInt64.toUInt64 &&& Int64.toUInt64 63)).toInt64))] [] h3))) : zm_Go E nc ns 2 [(0, .ref a0), (3, .long l3)] [] h := by
  refine zm_lload_n C rfl 1 rfl dX9_putVarint_2 ?_
  refine zm_lconst (v := lN 0) C (by decide) dX9_putVarint_3 ?_
  refine zm_lcmp C dX9_putVarint_4 ?_
  refine zm_if_lt (tgt := 16) C dX9_putVarint_5 (by decide) (fun z => ?_) (fun z => ?_)
  · replace w := w.1 z
    refine zm_aload_n C rfl 0 rfl dX9_putVarint_16 ?_
    refine zm_lload_n C rfl 1 rfl dX9_putVarint_17 ?_
    refine zm_ldc2 (v := lN 127) C (zm_inG (by decide +kernel) rfl) dX9_putVarint_18 ?_
    refine zm_land C dX9_putVarint_21 ?_
    refine zm_l2i C dX9_putVarint_22 ?_
    refine zm_sipush (v := nI 128) C (by decide) dX9_putVarint_23 ?_
    refine zm_iadd C dX9_putVarint_26 ?_
    obtain ⟨wr, w⟩ := w
    refine zm_Vv (As := [.int (((l3 &&& (lN 127)).toInt32) + (nI 128))]) (rest := []) C M_X9_put sv_X9_66 rfl dX9_putVarint_27 rfl (Nat.le_of_ble_eq_true rfl) (by decide) (by decide) (by show nc + 0 ≤ 0; omega) (by show ns + 0 ≤ 0; omega) wr w (fun h1 w => ?_)
    refine zm_lload_n C rfl 1 rfl dX9_putVarint_30 ?_
    refine zm_bipush (v := nI 7) C (by decide) dX9_putVarint_31 ?_
    refine zm_lushr C dX9_putVarint_33 ?_
    refine zm_lstore_n (L' := [(0, .ref a0), (3, .long ((l3.toUInt64 >>> ((nI 7).toInt64.toUInt64 &&& Int64.toUInt64 63)).toInt64))]) C rfl (by decide) [1, 0] dX9_putVarint_34 rfl ?_
    refine zm_goto (tgt := 2) C dX9_putVarint_35 (by decide) ?_
    exact w
  · replace w := w.2 z
    refine zm_lload_n C rfl 1 rfl dX9_putVarint_8 ?_
    refine zm_ldc2 (v := lN 127) C (zm_inG (by decide +kernel) rfl) dX9_putVarint_9 ?_
    refine zm_lcmp C dX9_putVarint_12 ?_
    refine zm_if_le (tgt := 38) C dX9_putVarint_13 (by decide) (fun z => ?_) (fun z => ?_)
    · replace w := w.1 z
      refine zm_aload_n C rfl 0 rfl dX9_putVarint_38 ?_
      refine zm_lload_n C rfl 1 rfl dX9_putVarint_39 ?_
      refine zm_l2i C dX9_putVarint_40 ?_
      obtain ⟨wr, w⟩ := w
      refine zm_Vv (As := [.int l3.toInt32]) (rest := []) C M_X9_put sv_X9_66 rfl dX9_putVarint_41 rfl (Nat.le_of_ble_eq_true rfl) (by decide) (by decide) (by show nc + 0 ≤ 0; omega) (by show ns + 0 ≤ 0; omega) wr w (fun h2 w => ?_)
      exact zm_return C Rt (by show nc ≤ 0; omega) (by show ns ≤ 0; omega) dX9_putVarint_44 w
    · replace w := w.2 z
      refine zm_aload_n C rfl 0 rfl dX9_putVarint_16 ?_
      refine zm_lload_n C rfl 1 rfl dX9_putVarint_17 ?_
      refine zm_ldc2 (v := lN 127) C (zm_inG (by decide +kernel) rfl) dX9_putVarint_18 ?_
      refine zm_land C dX9_putVarint_21 ?_
      refine zm_l2i C dX9_putVarint_22 ?_
      refine zm_sipush (v := nI 128) C (by decide) dX9_putVarint_23 ?_
      refine zm_iadd C dX9_putVarint_26 ?_
      obtain ⟨wr, w⟩ := w
      refine zm_Vv (As := [.int (((l3 &&& (lN 127)).toInt32) + (nI 128))]) (rest := []) C M_X9_put sv_X9_66 rfl dX9_putVarint_27 rfl (Nat.le_of_ble_eq_true rfl) (by decide) (by decide) (by show nc + 0 ≤ 0; omega) (by show ns + 0 ≤ 0; omega) wr w (fun h3 w => ?_)
      refine zm_lload_n C rfl 1 rfl dX9_putVarint_30 ?_
      refine zm_bipush (v := nI 7) C (by decide) dX9_putVarint_31 ?_
      refine zm_lushr C dX9_putVarint_33 ?_
      refine zm_lstore_n (L' := [(0, .ref a0), (3, .long ((l3.toUInt64 >>> ((nI 7).toInt64.toUInt64 &&& Int64.toUInt64 63)).toInt64))]) C rfl (by decide) [1, 0] dX9_putVarint_34 rfl ?_
      refine zm_goto (tgt := 2) C dX9_putVarint_35 (by decide) ?_
      exact w
set_option maxRecDepth 20000 in
theorem B_X9_alike_0 {E : zm_E} {K : zm_K} {Post : zm_Po} {nc ns : Nat} (C : zm_Cx E K cX9_alike RX9 1 0 0 0 4) (Rt : zm_Rt E Post 0 0 (some .int)) {a0 : Nat} {i1 : Int32} {i2 : Int32} {h : zm_H} (w : zm_Go E nc ns 2 [(0, .ref a0), (1, .int i1), (2, .int i2), (3, .int i1)] [] h) : zm_Go E nc ns 0 [(0, .ref a0), (1, .int i1), (2, .int i2)] [] h := by
  refine zm_iload_n C rfl 1 rfl dX9_alike_0 ?_
  refine zm_istore_n (L' := [(0, .ref a0), (1, .int i1), (2, .int i2), (3, .int i1)]) C rfl (by decide) [1, 2, 3, 0] dX9_alike_1 rfl ?_
  exact w
set_option maxRecDepth 20000 in
theorem B_X9_alike_2 {E : zm_E} {K : zm_K} {Post : zm_Po} {nc ns : Nat} (C : zm_Cx E K cX9_alike RX9 1 0 0 0 4) (Rt : zm_Rt E Post 0 0 (some .int)) {a0 : Nat} {i1 : Int32} {i2 : Int32} {i3 : Int32} {h : zm_H} (hnc : nc ≤ 0) (hns : ns ≤ 0) (w : (i2 ≤ i3 → Post (some (.int (i3 - i1))) h) ∧ (¬ i2 ≤ i3 → zm_ld K 1 h a0 i3 fun v1 => zm_ld K 1 h a0 i1 fun v2 => (¬ v1 = v2 → Post (some (.int (i3 - i1))) h) ∧ (v1 = v2 → zm_Go E nc ns 2 [(0, .ref a0), (1, .int i1), (2, .int i2), (3, .int (i3 + (nI 1)))] [] h))) : zm_Go E nc ns 2 [(0, .ref a0), (1, .int i1), (2, .int i2), (3, .int i3)] [] h := by
  refine zm_iload_n C rfl 3 rfl dX9_alike_2 ?_
  refine zm_iload_n C rfl 2 rfl dX9_alike_3 ?_
  refine zm_icmp_ge (tgt := 22) C dX9_alike_4 (by decide) (fun z => ?_) (fun z => ?_)
  · replace w := w.1 z
    refine zm_iload_n C rfl 3 rfl dX9_alike_22 ?_
    refine zm_iload_n C rfl 1 rfl dX9_alike_23 ?_
    refine zm_isub C dX9_alike_24 ?_
    exact zm_ireturn C Rt (by show nc ≤ 0; omega) (by show ns ≤ 0; omega) rfl dX9_alike_25 w
  · replace w := w.2 z
    refine zm_aload_n C rfl 0 rfl dX9_alike_7 ?_
    refine zm_iload_n C rfl 3 rfl dX9_alike_8 ?_
    refine zm_ldI C dX9_alike_9 w (fun v1 w => ?_)
    refine zm_aload_n C rfl 0 rfl dX9_alike_10 ?_
    refine zm_iload_n C rfl 1 rfl dX9_alike_11 ?_
    refine zm_ldI C dX9_alike_12 w (fun v2 w => ?_)
    refine zm_icmp_ne (tgt := 22) C dX9_alike_13 (by decide) (fun z => ?_) (fun z => ?_)
    · replace w := w.1 z
      refine zm_iload_n C rfl 3 rfl dX9_alike_22 ?_
      refine zm_iload_n C rfl 1 rfl dX9_alike_23 ?_
      refine zm_isub C dX9_alike_24 ?_
      exact zm_ireturn C Rt (by show nc ≤ 0; omega) (by show ns ≤ 0; omega) rfl dX9_alike_25 w
    · replace w := w.2 z
      refine zm_iinc (L' := [(0, .ref a0), (1, .int i1), (2, .int i2), (3, .int (i3 + (nI 1)))]) C (by decide) 3 [1, 2, 3, 0] dX9_alike_16 rfl rfl rfl ?_
      refine zm_goto (tgt := 2) C dX9_alike_19 (by decide) ?_
      exact w
set_option maxRecDepth 20000 in
theorem B_X9_writeRuns_0 {E : zm_E} {K : zm_K} {Post : zm_Po} {nc ns : Nat} (C : zm_Cx E K cX9_writeRuns RX9 3 45 0 0 11) (Rt : zm_Rt E Post 0 0 none) {a0 : Nat} {a1 : Nat} {i2 : Int32} {i3 : Int32} {h : zm_H} (w : zm_Go E nc ns 3 [(0, .ref a0), (1, .ref a1), (2, .int i2), (3, .int i3), (4, .int (nI 0))] [] h) : zm_Go E nc ns 0 [(0, .ref a0), (1, .ref a1), (2, .int i2), (3, .int i3)] [] h := by
  refine zm_iconst (v := nI 0) C (by decide) dX9_writeRuns_0 ?_
  refine zm_istore (L' := [(0, .ref a0), (1, .ref a1), (2, .int i2), (3, .int i3), (4, .int (nI 0))]) C (by decide) [1, 2, 3, 4, 0] dX9_writeRuns_1 rfl ?_
  exact w
set_option maxRecDepth 20000 in
theorem B_X9_writeRuns_3 {E : zm_E} {K : zm_K} {Post : zm_Po} {nc ns : Nat} (C : zm_Cx E K cX9_writeRuns RX9 3 45 0 0 11) (Rt : zm_Rt E Post 0 0 none) {a0 : Nat} {a1 : Nat} {i2 : Int32} {i3 : Int32} {i4 : Int32} {h : zm_H} (hnc : nc ≤ 0) (hns : ns ≤ 0) (w : (i2 ≤ i4 → Post none h) ∧ (¬ i2 ≤ i4 → zm_ci K M_X9_alike [.ref a1, .int i4, .int i2] h fun v1 h1 => (v1 < (nI 8) → zm_Go E nc ns 75 [(0, .ref a0), (1, .ref a1), (2, .int i2), (3, .int i3), (4, .int i4), (6, .int (nI 1))] [] h1) ∧ (¬ v1 < (nI 8) → zm_rc h1 a0 9 ∧ zm_cv K M_X9_putVarint [.ref a0, .long ((lN 2) * v1.toInt64)] h1 fun h2 => zm_Go E nc ns 39 [(0, .ref a0), (1, .ref a1), (2, .int i2), (3, .int i3), (4, .int i4), (5, .int v1), (6, .int (nI 0))] [] h2))) : zm_Go E nc ns 3 [(0, .ref a0), (1, .ref a1), (2, .int i2), (3, .int i3), (4, .int i4)] [] h := by
  refine zm_iload C 4 rfl dX9_writeRuns_3 ?_
  refine zm_iload_n C rfl 2 rfl dX9_writeRuns_5 ?_
  refine zm_icmp_ge (tgt := 223) C dX9_writeRuns_6 (by decide) (fun z => ?_) (fun z => ?_)
  · replace w := w.1 z
    exact zm_return C Rt (by show nc ≤ 0; omega) (by show ns ≤ 0; omega) dX9_writeRuns_223 w
  · replace w := w.2 z
    refine zm_aload_n C rfl 1 rfl dX9_writeRuns_9 ?_
    refine zm_iload C 4 rfl dX9_writeRuns_10 ?_
    refine zm_iload_n C rfl 2 rfl dX9_writeRuns_12 ?_
    refine zm_Si (As := [.ref a1, .int i4, .int i2]) (rest := []) C M_X9_alike ss_X9_70 rfl dX9_writeRuns_13 rfl (Nat.le_of_ble_eq_true rfl) (by decide) (by decide) (by show nc + 0 ≤ 0; omega) (by show ns + 0 ≤ 0; omega) w (fun v1 h1 w => ?_)
    refine zm_istore (L' := [(0, .ref a0), (1, .ref a1), (2, .int i2), (3, .int i3), (4, .int i4), (5, .int v1)]) C (by decide) [1, 2, 3, 4, 5, 0] dX9_writeRuns_16 rfl ?_
    refine zm_iload C 5 rfl dX9_writeRuns_18 ?_
    refine zm_bipush (v := nI 8) C (by decide) dX9_writeRuns_20 ?_
    refine zm_icmp_lt (tgt := 72) C dX9_writeRuns_22 (by decide) (fun z => ?_) (fun z => ?_)
    · replace w := w.1 z
      refine zm_iconst (v := nI 1) C (by decide) dX9_writeRuns_72 ?_
      refine zm_istore (L' := [(0, .ref a0), (1, .ref a1), (2, .int i2), (3, .int i3), (4, .int i4), (5, .int v1), (6, .int (nI 1))]) C (by decide) [1, 2, 3, 4, 5, 6, 0] dX9_writeRuns_73 rfl ?_
      exact zm_loc [0, 1, 2, 3, 4, 6] rfl w
    · replace w := w.2 z
      refine zm_aload_n C rfl 0 rfl dX9_writeRuns_25 ?_
      refine zm_ldc2 (v := lN 2) C (zm_inG (by decide +kernel) rfl) dX9_writeRuns_26 ?_
      refine zm_iload C 5 rfl dX9_writeRuns_29 ?_
      refine zm_i2l C dX9_writeRuns_31 ?_
      refine zm_lmul C dX9_writeRuns_32 ?_
      obtain ⟨wr, w⟩ := w
      refine zm_Vv (As := [.long ((lN 2) * v1.toInt64)]) (rest := []) C M_X9_putVarint sv_X9_76 rfl dX9_writeRuns_33 rfl (Nat.le_of_ble_eq_true rfl) (by decide) (by decide) (by show nc + 0 ≤ 0; omega) (by show ns + 0 ≤ 0; omega) wr w (fun h2 w => ?_)
      refine zm_iconst (v := nI 0) C (by decide) dX9_writeRuns_36 ?_
      refine zm_istore (L' := [(0, .ref a0), (1, .ref a1), (2, .int i2), (3, .int i3), (4, .int i4), (5, .int v1), (6, .int (nI 0))]) C (by decide) [1, 2, 3, 4, 5, 6, 0] dX9_writeRuns_37 rfl ?_
      exact w
set_option maxRecDepth 20000 in
theorem B_X9_writeRuns_39 {E : zm_E} {K : zm_K} {Post : zm_Po} {nc ns : Nat} (C : zm_Cx E K cX9_writeRuns RX9 3 45 0 0 11) (Rt : zm_Rt E Post 0 0 none) {a0 : Nat} {a1 : Nat} {i2 : Int32} {i3 : Int32} {i4 : Int32} {i5 : Int32} {i6 : Int32} {h : zm_H} (hnc : nc ≤ 0) (hns : ns ≤ 0) (w : (i3 ≤ i6 → zm_Go E nc ns 3 [(0, .ref a0), (1, .ref a1), (2, .int i2), (3, .int i3), (4, .int (i4 + i5))] [] h) ∧ (¬ i3 ≤ i6 → zm_ld K 1 h a1 i4 fun v1 => zm_rc h a0 9 ∧ zm_cv K M_X9_put [.ref a0, .int (v1 >>> (i6 &&& 31))] h fun h1 => zm_Go E nc ns 39 [(0, .ref a0), (1, .ref a1), (2, .int i2), (3, .int i3), (4, .int i4), (5, .int i5), (6, .int (i6 + (nI 8)))] [] h1)) : zm_Go E nc ns 39 [(0, .ref a0), (1, .ref a1), (2, .int i2), (3, .int i3), (4, .int i4), (5, .int i5), (6, .int i6)] [] h := by
  refine zm_iload C 6 rfl dX9_writeRuns_39 ?_
  refine zm_iload_n C rfl 3 rfl dX9_writeRuns_41 ?_
  refine zm_icmp_ge (tgt := 62) C dX9_writeRuns_42 (by decide) (fun z => ?_) (fun z => ?_)
  · replace w := w.1 z
    refine zm_iload C 4 rfl dX9_writeRuns_62 ?_
    refine zm_iload C 5 rfl dX9_writeRuns_64 ?_
    refine zm_iadd C dX9_writeRuns_66 ?_
    refine zm_istore (L' := [(0, .ref a0), (1, .ref a1), (2, .int i2), (3, .int i3), (4, .int (i4 + i5)), (5, .int i5), (6, .int i6)]) C (by decide) [1, 2, 3, 4, 0, 5, 6] dX9_writeRuns_67 rfl ?_
    refine zm_goto (tgt := 3) C dX9_writeRuns_69 (by decide) ?_
    exact zm_loc [0, 1, 2, 3, 4] rfl w
  · replace w := w.2 z
    refine zm_aload_n C rfl 0 rfl dX9_writeRuns_45 ?_
    refine zm_aload_n C rfl 1 rfl dX9_writeRuns_46 ?_
    refine zm_iload C 4 rfl dX9_writeRuns_47 ?_
    refine zm_ldI C dX9_writeRuns_49 w (fun v1 w => ?_)
    refine zm_iload C 6 rfl dX9_writeRuns_50 ?_
    refine zm_ishr C dX9_writeRuns_52 ?_
    obtain ⟨wr, w⟩ := w
    refine zm_Vv (As := [.int (v1 >>> (i6 &&& 31))]) (rest := []) C M_X9_put sv_X9_66 rfl dX9_writeRuns_53 rfl (Nat.le_of_ble_eq_true rfl) (by decide) (by decide) (by show nc + 0 ≤ 0; omega) (by show ns + 0 ≤ 0; omega) wr w (fun h1 w => ?_)
    refine zm_iinc (L' := [(0, .ref a0), (1, .ref a1), (2, .int i2), (3, .int i3), (4, .int i4), (5, .int i5), (6, .int (i6 + (nI 8)))]) C (by decide) 6 [1, 2, 3, 4, 5, 6, 0] dX9_writeRuns_56 rfl rfl rfl ?_
    refine zm_goto (tgt := 39) C dX9_writeRuns_59 (by decide) ?_
    exact w
set_option maxRecDepth 20000 in
theorem B_X9_writeRuns_75 {E : zm_E} {K : zm_K} {Post : zm_Po} {nc ns : Nat} (C : zm_Cx E K cX9_writeRuns RX9 3 45 0 0 11) (Rt : zm_Rt E Post 0 0 none) {a0 : Nat} {a1 : Nat} {i2 : Int32} {i3 : Int32} {i4 : Int32} {i6 : Int32} {h : zm_H} (hnc : nc ≤ 0) (hns : ns ≤ 0) (w : (i2 ≤ (i4 + ((nI 8) * i6)) → zm_rc h a0 9 ∧ zm_cv K M_X9_putVarint [.ref a0, .long (((lN 2) * i6.toInt64) + (lN 1))] h fun h1 => zm_Go E nc ns 127 [(0, .ref a0), (1, .ref a1), (2, .int i2), (3, .int i3), (4, .int i4), (6, .int i6), (7, .int (nI 0))] [] h1) ∧ (¬ i2 ≤ (i4 + ((nI 8) * i6)) → zm_ci K M_X9_alike [.ref a1, .int (i4 + ((nI 8) * i6)), .int i2] h fun v1 h2 => ((nI 8) ≤ v1 → zm_rc h2 a0 9 ∧ zm_cv K M_X9_putVarint [.ref a0, .long (((lN 2) * i6.toInt64) + (lN 1))] h2 fun h3 => zm_Go E nc ns 127 [(0, .ref a0), (1, .ref a1), (2, .int i2), (3, .int i3), (4, .int i4), (6, .int i6), (7, .int (nI 0))] [] h3) ∧ (¬ (nI 8) ≤ v1 → zm_Go E nc ns 75 [(0, .ref a0), (1, .ref a1), (2, .int i2), (3, .int i3), (4, .int i4), (6, .int (i6 + (nI 1)))] [] h2))) : zm_Go E nc ns 75 [(0, .ref a0), (1, .ref a1), (2, .int i2), (3, .int i3), (4, .int i4), (6, .int i6)] [] h := by
  refine zm_iload C 4 rfl dX9_writeRuns_75 ?_
  refine zm_bipush (v := nI 8) C (by decide) dX9_writeRuns_77 ?_
  refine zm_iload C 5 rfl dX9_writeRuns_79 ?_
  refine zm_imul C dX9_writeRuns_81 ?_
  refine zm_iadd C dX9_writeRuns_82 ?_
  refine zm_iload_n C rfl 2 rfl dX9_writeRuns_83 ?_
  refine zm_icmp_ge (tgt := 111) C dX9_writeRuns_84 (by decide) (fun z => ?_) (fun z => ?_)
  · replace w := w.1 z
    refine zm_aload_n C rfl 0 rfl dX9_writeRuns_111 ?_
    refine zm_ldc2 (v := lN 2) C (zm_inG (by decide +kernel) rfl) dX9_writeRuns_112 ?_
    refine zm_iload C 5 rfl dX9_writeRuns_115 ?_
    refine zm_i2l C dX9_writeRuns_117 ?_
    refine zm_lmul C dX9_writeRuns_118 ?_
    refine zm_lconst (v := lN 1) C (by decide) dX9_writeRuns_119 ?_
    refine zm_ladd C dX9_writeRuns_120 ?_
    obtain ⟨wr, w⟩ := w
    refine zm_Vv (As := [.long (((lN 2) * i6.toInt64) + (lN 1))]) (rest := []) C M_X9_putVarint sv_X9_76 rfl dX9_writeRuns_121 rfl (Nat.le_of_ble_eq_true rfl) (by decide) (by decide) (by show nc + 0 ≤ 0; omega) (by show ns + 0 ≤ 0; omega) wr w (fun h1 w => ?_)
    refine zm_iconst (v := nI 0) C (by decide) dX9_writeRuns_124 ?_
    refine zm_istore (L' := [(0, .ref a0), (1, .ref a1), (2, .int i2), (3, .int i3), (4, .int i4), (6, .int i6), (7, .int (nI 0))]) C (by decide) [1, 2, 3, 4, 5, 6, 0] dX9_writeRuns_125 rfl ?_
    exact w
  · replace w := w.2 z
    refine zm_aload_n C rfl 1 rfl dX9_writeRuns_87 ?_
    refine zm_iload C 4 rfl dX9_writeRuns_88 ?_
    refine zm_bipush (v := nI 8) C (by decide) dX9_writeRuns_90 ?_
    refine zm_iload C 5 rfl dX9_writeRuns_92 ?_
    refine zm_imul C dX9_writeRuns_94 ?_
    refine zm_iadd C dX9_writeRuns_95 ?_
    refine zm_iload_n C rfl 2 rfl dX9_writeRuns_96 ?_
    refine zm_Si (As := [.ref a1, .int (i4 + ((nI 8) * i6)), .int i2]) (rest := []) C M_X9_alike ss_X9_70 rfl dX9_writeRuns_97 rfl (Nat.le_of_ble_eq_true rfl) (by decide) (by decide) (by show nc + 0 ≤ 0; omega) (by show ns + 0 ≤ 0; omega) w (fun v1 h2 w => ?_)
    refine zm_bipush (v := nI 8) C (by decide) dX9_writeRuns_100 ?_
    refine zm_icmp_ge (tgt := 111) C dX9_writeRuns_102 (by decide) (fun z => ?_) (fun z => ?_)
    · replace w := w.1 z
      refine zm_aload_n C rfl 0 rfl dX9_writeRuns_111 ?_
      refine zm_ldc2 (v := lN 2) C (zm_inG (by decide +kernel) rfl) dX9_writeRuns_112 ?_
      refine zm_iload C 5 rfl dX9_writeRuns_115 ?_
      refine zm_i2l C dX9_writeRuns_117 ?_
      refine zm_lmul C dX9_writeRuns_118 ?_
      refine zm_lconst (v := lN 1) C (by decide) dX9_writeRuns_119 ?_
      refine zm_ladd C dX9_writeRuns_120 ?_
      obtain ⟨wr, w⟩ := w
      refine zm_Vv (As := [.long (((lN 2) * i6.toInt64) + (lN 1))]) (rest := []) C M_X9_putVarint sv_X9_76 rfl dX9_writeRuns_121 rfl (Nat.le_of_ble_eq_true rfl) (by decide) (by decide) (by show nc + 0 ≤ 0; omega) (by show ns + 0 ≤ 0; omega) wr w (fun h3 w => ?_)
      refine zm_iconst (v := nI 0) C (by decide) dX9_writeRuns_124 ?_
      refine zm_istore (L' := [(0, .ref a0), (1, .ref a1), (2, .int i2), (3, .int i3), (4, .int i4), (6, .int i6), (7, .int (nI 0))]) C (by decide) [1, 2, 3, 4, 5, 6, 0] dX9_writeRuns_125 rfl ?_
      exact w
    · replace w := w.2 z
      refine zm_iinc (L' := [(0, .ref a0), (1, .ref a1), (2, .int i2), (3, .int i3), (4, .int i4), (6, .int (i6 + (nI 1)))]) C (by decide) 5 [1, 2, 3, 4, 5, 0] dX9_writeRuns_105 rfl rfl rfl ?_
      refine zm_goto (tgt := 75) C dX9_writeRuns_108 (by decide) ?_
      exact w
set_option maxRecDepth 20000 in
theorem B_X9_writeRuns_127 {E : zm_E} {K : zm_K} {Post : zm_Po} {nc ns : Nat} (C : zm_Cx E K cX9_writeRuns RX9 3 45 0 0 11) (Rt : zm_Rt E Post 0 0 none) {a0 : Nat} {a1 : Nat} {i2 : Int32} {i3 : Int32} {i4 : Int32} {i6 : Int32} {i7 : Int32} {h : zm_H} (w : ((((nI 8) * i3) * i6) ≤ i7 → zm_Go E nc ns 3 [(0, .ref a0), (1, .ref a1), (2, .int i2), (3, .int i3), (4, .int (i4 + ((nI 8) * i6)))] [] h) ∧ (¬ (((nI 8) * i3) * i6) ≤ i7 → zm_Go E nc ns 145 [(0, .ref a0), (1, .ref a1), (2, .int i2), (3, .int i3), (4, .int i4), (6, .int i6), (7, .int i7), (8, .int (nI 0)), (9, .int (nI 0))] [] h)) : zm_Go E nc ns 127 [(0, .ref a0), (1, .ref a1), (2, .int i2), (3, .int i3), (4, .int i4), (6, .int i6), (7, .int i7)] [] h := by
  refine zm_iload C 6 rfl dX9_writeRuns_127 ?_
  refine zm_bipush (v := nI 8) C (by decide) dX9_writeRuns_129 ?_
  refine zm_iload_n C rfl 3 rfl dX9_writeRuns_131 ?_
  refine zm_imul C dX9_writeRuns_132 ?_
  refine zm_iload C 5 rfl dX9_writeRuns_133 ?_
  refine zm_imul C dX9_writeRuns_135 ?_
  refine zm_icmp_ge (tgt := 210) C dX9_writeRuns_136 (by decide) (fun z => ?_) (fun z => ?_)
  · replace w := w.1 z
    refine zm_iload C 4 rfl dX9_writeRuns_210 ?_
    refine zm_bipush (v := nI 8) C (by decide) dX9_writeRuns_212 ?_
    refine zm_iload C 5 rfl dX9_writeRuns_214 ?_
    refine zm_imul C dX9_writeRuns_216 ?_
    refine zm_iadd C dX9_writeRuns_217 ?_
    refine zm_istore (L' := [(0, .ref a0), (1, .ref a1), (2, .int i2), (3, .int i3), (4, .int (i4 + ((nI 8) * i6))), (6, .int i6), (7, .int i7)]) C (by decide) [1, 2, 3, 4, 0, 5, 6] dX9_writeRuns_218 rfl ?_
    refine zm_goto (tgt := 3) C dX9_writeRuns_220 (by decide) ?_
    exact zm_loc [0, 1, 2, 3, 4] rfl w
  · replace w := w.2 z
    refine zm_iconst (v := nI 0) C (by decide) dX9_writeRuns_139 ?_
    refine zm_istore (L' := [(0, .ref a0), (1, .ref a1), (2, .int i2), (3, .int i3), (4, .int i4), (6, .int i6), (7, .int i7), (8, .int (nI 0))]) C (by decide) [1, 2, 3, 4, 5, 6, 7, 0] dX9_writeRuns_140 rfl ?_
    refine zm_iconst (v := nI 0) C (by decide) dX9_writeRuns_142 ?_
    refine zm_istore (L' := [(0, .ref a0), (1, .ref a1), (2, .int i2), (3, .int i3), (4, .int i4), (6, .int i6), (7, .int i7), (8, .int (nI 0)), (9, .int (nI 0))]) C (by decide) [1, 2, 3, 4, 5, 6, 7, 8, 0] dX9_writeRuns_143 rfl ?_
    exact w
set_option maxRecDepth 20000 in
theorem B_X9_writeRuns_145 {E : zm_E} {K : zm_K} {Post : zm_Po} {nc ns : Nat} (C : zm_Cx E K cX9_writeRuns RX9 3 45 0 0 11) (Rt : zm_Rt E Post 0 0 none) {a0 : Nat} {a1 : Nat} {i2 : Int32} {i3 : Int32} {i4 : Int32} {i6 : Int32} {i7 : Int32} {i8 : Int32} {i9 : Int32} {h : zm_H} (hnc : nc ≤ 0) (hns : ns ≤ 0) (w : ((nI 8) ≤ i9 → zm_rc h a0 9 ∧ zm_cv K M_X9_put [.ref a0, .int i8] h fun h1 => zm_Go E nc ns 127 [(0, .ref a0), (1, .ref a1), (2, .int i2), (3, .int i3), (4, .int i4), (6, .int i6), (7, .int (i7 + (nI 8)))] [] h1) ∧ (¬ (nI 8) ≤ i9 → ¬ i3 = 0 ∧ (i2 ≤ (i4 + ((i7 + i9) / i3)) → zm_Go E nc ns 145 [(0, .ref a0), (1, .ref a1), (2, .int i2), (3, .int i3), (4, .int i4), (6, .int i6), (7, .int i7), (8, .int i8), (9, .int (i9 + (nI 1)))] [] h) ∧ (¬ i2 ≤ (i4 + ((i7 + i9) / i3)) → zm_ld K 1 h a1 (i4 + ((i7 + i9) / i3)) fun v1 => ¬ i3 = 0 ∧ zm_Go E nc ns 145 [(0, .ref a0), (1, .ref a1), (2, .int i2), (3, .int i3), (4, .int i4), (6, .int i6), (7, .int i7), (8, .int (i8 ||| ((((v1.toUInt32 >>> (((i7 + i9) - (i7 + i9) / i3 * i3).toUInt32 &&& Int32.toUInt32 31)).toInt32) &&& (nI 1)) <<< (i9 &&& 31)))), (9, .int (i9 + (nI 1)))] [] h))) : zm_Go E nc ns 145 [(0, .ref a0), (1, .ref a1), (2, .int i2), (3, .int i3), (4, .int i4), (6, .int i6), (7, .int i7), (8, .int i8), (9, .int i9)] [] h := by
  refine zm_iload C 8 rfl dX9_writeRuns_145 ?_
  refine zm_bipush (v := nI 8) C (by decide) dX9_writeRuns_147 ?_
  refine zm_icmp_ge (tgt := 198) C dX9_writeRuns_149 (by decide) (fun z => ?_) (fun z => ?_)
  · replace w := w.1 z
    refine zm_aload_n C rfl 0 rfl dX9_writeRuns_198 ?_
    refine zm_iload C 7 rfl dX9_writeRuns_199 ?_
    obtain ⟨wr, w⟩ := w
    refine zm_Vv (As := [.int i8]) (rest := []) C M_X9_put sv_X9_66 rfl dX9_writeRuns_201 rfl (Nat.le_of_ble_eq_true rfl) (by decide) (by decide) (by show nc + 0 ≤ 0; omega) (by show ns + 0 ≤ 0; omega) wr w (fun h1 w => ?_)
    refine zm_iinc (L' := [(0, .ref a0), (1, .ref a1), (2, .int i2), (3, .int i3), (4, .int i4), (6, .int i6), (7, .int (i7 + (nI 8))), (8, .int i8), (9, .int i9)]) C (by decide) 6 [1, 2, 3, 4, 5, 6, 0, 7, 8] dX9_writeRuns_204 rfl rfl rfl ?_
    refine zm_goto (tgt := 127) C dX9_writeRuns_207 (by decide) ?_
    exact zm_loc [0, 1, 2, 3, 4, 5, 6] rfl w
  · replace w := w.2 z
    refine zm_iload C 4 rfl dX9_writeRuns_152 ?_
    refine zm_iload C 6 rfl dX9_writeRuns_154 ?_
    refine zm_iload C 8 rfl dX9_writeRuns_156 ?_
    refine zm_iadd C dX9_writeRuns_158 ?_
    refine zm_iload_n C rfl 3 rfl dX9_writeRuns_159 ?_
    refine zm_idiv C w.1 dX9_writeRuns_160 ?_
    replace w := w.2
    refine zm_iadd C dX9_writeRuns_161 ?_
    refine zm_istore (L' := [(0, .ref a0), (1, .ref a1), (2, .int i2), (3, .int i3), (4, .int i4), (6, .int i6), (7, .int i7), (8, .int i8), (9, .int i9), (10, .int (i4 + ((i7 + i9) / i3)))]) C (by decide) [1, 2, 3, 4, 5, 6, 7, 8, 9, 0] dX9_writeRuns_162 rfl ?_
    refine zm_iload C 9 rfl dX9_writeRuns_164 ?_
    refine zm_iload_n C rfl 2 rfl dX9_writeRuns_166 ?_
    refine zm_icmp_ge (tgt := 192) C dX9_writeRuns_167 (by decide) (fun z => ?_) (fun z => ?_)
    · replace w := w.1 z
      refine zm_iinc (L' := [(0, .ref a0), (1, .ref a1), (2, .int i2), (3, .int i3), (4, .int i4), (6, .int i6), (7, .int i7), (8, .int i8), (9, .int (i9 + (nI 1))), (10, .int (i4 + ((i7 + i9) / i3)))]) C (by decide) 8 [1, 2, 3, 4, 5, 6, 7, 8, 0, 9] dX9_writeRuns_192 rfl rfl rfl ?_
      refine zm_goto (tgt := 145) C dX9_writeRuns_195 (by decide) ?_
      exact zm_loc [0, 1, 2, 3, 4, 5, 6, 7, 8] rfl w
    · replace w := w.2 z
      refine zm_iload C 7 rfl dX9_writeRuns_170 ?_
      refine zm_aload_n C rfl 1 rfl dX9_writeRuns_172 ?_
      refine zm_iload C 9 rfl dX9_writeRuns_173 ?_
      refine zm_ldI C dX9_writeRuns_175 w (fun v1 w => ?_)
      refine zm_iload C 6 rfl dX9_writeRuns_176 ?_
      refine zm_iload C 8 rfl dX9_writeRuns_178 ?_
      refine zm_iadd C dX9_writeRuns_180 ?_
      refine zm_iload_n C rfl 3 rfl dX9_writeRuns_181 ?_
      refine zm_irem C w.1 dX9_writeRuns_182 ?_
      replace w := w.2
      refine zm_iushr C dX9_writeRuns_183 ?_
      refine zm_iconst (v := nI 1) C (by decide) dX9_writeRuns_184 ?_
      refine zm_iand C dX9_writeRuns_185 ?_
      refine zm_iload C 8 rfl dX9_writeRuns_186 ?_
      refine zm_ishl C dX9_writeRuns_188 ?_
      refine zm_ior C dX9_writeRuns_189 ?_
      refine zm_istore (L' := [(0, .ref a0), (1, .ref a1), (2, .int i2), (3, .int i3), (4, .int i4), (6, .int i6), (7, .int i7), (8, .int (i8 ||| ((((v1.toUInt32 >>> (((i7 + i9) - (i7 + i9) / i3 * i3).toUInt32 &&& Int32.toUInt32 31)).toInt32) &&& (nI 1)) <<< (i9 &&& 31)))), (9, .int i9), (10, .int (i4 + ((i7 + i9) / i3)))]) C (by decide) [1, 2, 3, 4, 5, 6, 7, 0, 8, 9] dX9_writeRuns_190 rfl ?_
      refine zm_iinc (L' := [(0, .ref a0), (1, .ref a1), (2, .int i2), (3, .int i3), (4, .int i4), (6, .int i6), (7, .int i7), (8, .int (i8 ||| ((((v1.toUInt32 >>> (((i7 + i9) - (i7 + i9) / i3 * i3).toUInt32 &&& Int32.toUInt32 31)).toInt32) &&& (nI 1)) <<< (i9 &&& 31)))), (9, .int (i9 + (nI 1))), (10, .int (i4 + ((i7 + i9) / i3)))]) C (by decide) 8 [1, 2, 3, 4, 5, 6, 7, 8, 0, 9] dX9_writeRuns_192 rfl rfl rfl ?_
      refine zm_goto (tgt := 145) C dX9_writeRuns_195 (by decide) ?_
      exact zm_loc [0, 1, 2, 3, 4, 5, 6, 7, 8] rfl w
