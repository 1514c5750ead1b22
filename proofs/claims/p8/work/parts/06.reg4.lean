set_option maxRecDepth 20000 in
theorem B_X9_bitsAt_0 {E : zm_E} {K : zm_K} {Post : zm_Po} {nc ns : Nat} (C : zm_Cx E K cX9_bitsAt RX9 1 0 0 0 6) (Rt : zm_Rt E Post 0 0 (some .int)) {a0 : Nat} {i1 : Int32} {i2 : Int32} {i3 : Int32} {h : zm_H} (w : zm_Go E nc ns 6 [(0, .ref a0), (1, .int i1), (2, .int i2), (3, .int i3), (4, .int (nI 0)), (5, .int (nI 0))] [] h) : zm_Go E nc ns 0 [(0, .ref a0), (1, .int i1), (2, .int i2), (3, .int i3)] [] h := by
  refine zm_iconst (v := nI 0) C (by decide) dX9_bitsAt_0 ?_
  refine zm_istore (L' := [(0, .ref a0), (1, .int i1), (2, .int i2), (3, .int i3), (4, .int (nI 0))]) C (by decide) [1, 2, 3, 4, 0] dX9_bitsAt_1 rfl ?_
  refine zm_iconst (v := nI 0) C (by decide) dX9_bitsAt_3 ?_
  refine zm_istore (L' := [(0, .ref a0), (1, .int i1), (2, .int i2), (3, .int i3), (4, .int (nI 0)), (5, .int (nI 0))]) C (by decide) [1, 2, 3, 4, 5, 0] dX9_bitsAt_4 rfl ?_
  exact w
set_option maxRecDepth 20000 in
theorem B_X9_bitsAt_6 {E : zm_E} {K : zm_K} {Post : zm_Po} {nc ns : Nat} (C : zm_Cx E K cX9_bitsAt RX9 1 0 0 0 6) (Rt : zm_Rt E Post 0 0 (some .int)) {a0 : Nat} {i1 : Int32} {i2 : Int32} {i3 : Int32} {i4 : Int32} {i5 : Int32} {h : zm_H} (hnc : nc ≤ 0) (hns : ns ≤ 0) (w : (i3 ≤ i5 → Post (some (.int i4)) h) ∧ (¬ i3 ≤ i5 → zm_gR h a0 9 11 fun v1 => ¬ (nI 8) = 0 ∧ zm_ld K 1 h v1 (i1 + ((i2 + i5) / (nI 8))) fun v2 => ¬ (nI 8) = 0 ∧ zm_Go E nc ns 6 [(0, .ref a0), (1, .int i1), (2, .int i2), (3, .int i3), (4, .int (i4 ||| (((v2 >>> (((i2 + i5) - (i2 + i5) / (nI 8) * (nI 8)) &&& 31)) &&& (nI 1)) <<< (i5 &&& 31)))), (5, .int (i5 + (nI 1)))] [] h)) : zm_Go E nc ns 6 [(0, .ref a0), (1, .int i1), (2, .int i2), (3, .int i3), (4, .int i4), (5, .int i5)] [] h := by
  refine zm_iload C 5 rfl dX9_bitsAt_6 ?_
  refine zm_iload_n C rfl 3 rfl dX9_bitsAt_8 ?_
  refine zm_icmp_ge (tgt := 50) C dX9_bitsAt_9 (by decide) (fun z => ?_) (fun z => ?_)
  · replace w := w.1 z
    refine zm_iload C 4 rfl dX9_bitsAt_50 ?_
    exact zm_ireturn C Rt (by show nc ≤ 0; omega) (by show ns ≤ 0; omega) rfl dX9_bitsAt_52 w
  · replace w := w.2 z
    refine zm_iload C 4 rfl dX9_bitsAt_12 ?_
    refine zm_aload_n C rfl 0 rfl dX9_bitsAt_14 ?_
    refine zm_getR C ff_X9_31 dX9_bitsAt_15 w (fun v1 w => ?_)
    refine zm_iload_n C rfl 1 rfl dX9_bitsAt_18 ?_
    refine zm_iload_n C rfl 2 rfl dX9_bitsAt_19 ?_
    refine zm_iload C 5 rfl dX9_bitsAt_20 ?_
    refine zm_iadd C dX9_bitsAt_22 ?_
    refine zm_bipush (v := nI 8) C (by decide) dX9_bitsAt_23 ?_
    refine zm_idiv C w.1 dX9_bitsAt_25 ?_
    replace w := w.2
    refine zm_iadd C dX9_bitsAt_26 ?_
    refine zm_ldI C dX9_bitsAt_27 w (fun v2 w => ?_)
    refine zm_iload_n C rfl 2 rfl dX9_bitsAt_28 ?_
    refine zm_iload C 5 rfl dX9_bitsAt_29 ?_
    refine zm_iadd C dX9_bitsAt_31 ?_
    refine zm_bipush (v := nI 8) C (by decide) dX9_bitsAt_32 ?_
    refine zm_irem C w.1 dX9_bitsAt_34 ?_
    replace w := w.2
    refine zm_ishr C dX9_bitsAt_35 ?_
    refine zm_iconst (v := nI 1) C (by decide) dX9_bitsAt_36 ?_
    refine zm_iand C dX9_bitsAt_37 ?_
    refine zm_iload C 5 rfl dX9_bitsAt_38 ?_
    refine zm_ishl C dX9_bitsAt_40 ?_
    refine zm_ior C dX9_bitsAt_41 ?_
    refine zm_istore (L' := [(0, .ref a0), (1, .int i1), (2, .int i2), (3, .int i3), (4, .int (i4 ||| (((v2 >>> (((i2 + i5) - (i2 + i5) / (nI 8) * (nI 8)) &&& 31)) &&& (nI 1)) <<< (i5 &&& 31)))), (5, .int i5)]) C (by decide) [1, 2, 3, 4, 0, 5] dX9_bitsAt_42 rfl ?_
    refine zm_iinc (L' := [(0, .ref a0), (1, .int i1), (2, .int i2), (3, .int i3), (4, .int (i4 ||| (((v2 >>> (((i2 + i5) - (i2 + i5) / (nI 8) * (nI 8)) &&& 31)) &&& (nI 1)) <<< (i5 &&& 31)))), (5, .int (i5 + (nI 1)))]) C (by decide) 5 [1, 2, 3, 4, 5, 0] dX9_bitsAt_44 rfl rfl rfl ?_
    refine zm_goto (tgt := 6) C dX9_bitsAt_47 (by decide) ?_
    exact w
set_option maxRecDepth 20000 in
theorem B_X9_readRuns_0 {E : zm_E} {K : zm_K} {Post : zm_Po} {nc ns : Nat} (C : zm_Cx E K cX9_readRuns RX9 3 55 0 0 10) (Rt : zm_Rt E Post 0 0 none) {a0 : Nat} {a1 : Nat} {i2 : Int32} {i3 : Int32} {i4 : Int32} {h : zm_H} (w : zm_Go E nc ns 3 [(0, .ref a0), (1, .ref a1), (2, .int i2), (3, .int i3), (4, .int i4), (5, .int (nI 0))] [] h) : zm_Go E nc ns 0 [(0, .ref a0), (1, .ref a1), (2, .int i2), (3, .int i3), (4, .int i4)] [] h := by
  refine zm_iconst (v := nI 0) C (by decide) dX9_readRuns_0 ?_
  refine zm_istore (L' := [(0, .ref a0), (1, .ref a1), (2, .int i2), (3, .int i3), (4, .int i4), (5, .int (nI 0))]) C (by decide) [1, 2, 3, 4, 5, 0] dX9_readRuns_1 rfl ?_
  exact w
set_option maxRecDepth 20000 in
theorem B_X9_readRuns_3 {E : zm_E} {K : zm_K} {Post : zm_Po} {nc ns : Nat} (C : zm_Cx E K cX9_readRuns RX9 3 55 0 0 10) (Rt : zm_Rt E Post 0 0 none) {a0 : Nat} {a1 : Nat} {i2 : Int32} {i3 : Int32} {i4 : Int32} {i5 : Int32} {h : zm_H} (hnc : nc ≤ 0) (hns : ns ≤ 0) (w : (i2 ≤ i5 → Post none h) ∧ (¬ i2 ≤ i5 → zm_gI h a0 9 17 fun v1 => (¬ v1 = 0 → Post none h) ∧ (v1 = 0 → zm_rc h a0 9 ∧ zm_cl K M_X9_varint [.ref a0, .int i4] h fun v2 h1 => zm_gI h1 a0 9 17 fun v3 => (v3 = 0 → (¬ (lg_cmp ((v2.toUInt64 >>> ((nI 1).toInt64.toUInt64 &&& Int64.toUInt64 63)).toInt64) (lN 0)) = 0 → (¬ (lg_cmp (v2 &&& (lN 1)) (lN 0)) = 0 → zm_rc h1 a0 9 ∧ zm_ci K M_X9_readGroups [.ref a0, .ref a1, .int i5, .int i2, .int i3, .int i4, .long ((v2.toUInt64 >>> ((nI 1).toInt64.toUInt64 &&& Int64.toUInt64 63)).toInt64)] h1 fun v4 h2 => zm_Go E nc ns 3 [(0, .ref a0), (1, .ref a1), (2, .int i2), (3, .int i3), (4, .int i4), (5, .int v4)] [] h2) ∧ ((lg_cmp (v2 &&& (lN 1)) (lN 0)) = 0 → zm_rc h1 a0 9 ∧ zm_ci K M_X9_readOne [.ref a0, .ref a1, .int i5, .int i2, .int i3, .int i4, .long ((v2.toUInt64 >>> ((nI 1).toInt64.toUInt64 &&& Int64.toUInt64 63)).toInt64)] h1 fun v5 h3 => zm_Go E nc ns 3 [(0, .ref a0), (1, .ref a1), (2, .int i2), (3, .int i3), (4, .int i4), (5, .int v5)] [] h3)) ∧ ((lg_cmp ((v2.toUInt64 >>> ((nI 1).toInt64.toUInt64 &&& Int64.toUInt64 63)).toInt64) (lN 0)) = 0 → zm_pf h1 a0 9 17 (.int (nI 3)) fun h4 => zm_Go E nc ns 3 [(0, .ref a0), (1, .ref a1), (2, .int i2), (3, .int i3), (4, .int i4), (5, .int i5)] [] h4)) ∧ (¬ v3 = 0 → Post none h1)))) : zm_Go E nc ns 3 [(0, .ref a0), (1, .ref a1), (2, .int i2), (3, .int i3), (4, .int i4), (5, .int i5)] [] h := by
  refine zm_iload C 5 rfl dX9_readRuns_3 ?_
  refine zm_iload_n C rfl 2 rfl dX9_readRuns_5 ?_
  refine zm_icmp_ge (tgt := 98) C dX9_readRuns_6 (by decide) (fun z => ?_) (fun z => ?_)
  · replace w := w.1 z
    exact zm_return C Rt (by show nc ≤ 0; omega) (by show ns ≤ 0; omega) dX9_readRuns_98 w
  · replace w := w.2 z
    refine zm_aload_n C rfl 0 rfl dX9_readRuns_9 ?_
    refine zm_getI C ff_X9_58 dX9_readRuns_10 w (fun v1 w => ?_)
    refine zm_if_ne (tgt := 98) C dX9_readRuns_13 (by decide) (fun z => ?_) (fun z => ?_)
    · replace w := w.1 z
      exact zm_return C Rt (by show nc ≤ 0; omega) (by show ns ≤ 0; omega) dX9_readRuns_98 w
    · replace w := w.2 z
      refine zm_aload_n C rfl 0 rfl dX9_readRuns_16 ?_
      refine zm_iload C 4 rfl dX9_readRuns_17 ?_
      obtain ⟨wr, w⟩ := w
      refine zm_Vl (As := [.int i4]) (rest := []) C M_X9_varint sv_X9_80 rfl dX9_readRuns_19 rfl (Nat.le_of_ble_eq_true rfl) (by decide) (by decide) (by show nc + 0 ≤ 0; omega) (by show ns + 0 ≤ 0; omega) wr w (fun v2 h1 w => ?_)
      refine zm_lstore (L' := [(0, .ref a0), (1, .ref a1), (2, .int i2), (3, .int i3), (4, .int i4), (5, .int i5), (6, .long v2)]) C (by decide) [1, 2, 3, 4, 5, 6, 0] dX9_readRuns_22 rfl ?_
      refine zm_aload_n C rfl 0 rfl dX9_readRuns_24 ?_
      refine zm_getI C ff_X9_58 dX9_readRuns_25 w (fun v3 w => ?_)
      refine zm_if_eq (tgt := 32) C dX9_readRuns_28 (by decide) (fun z => ?_) (fun z => ?_)
      · replace w := w.1 z
        refine zm_lload C 6 rfl dX9_readRuns_32 ?_
        refine zm_iconst (v := nI 1) C (by decide) dX9_readRuns_34 ?_
        refine zm_lushr C dX9_readRuns_35 ?_
        refine zm_lstore (L' := [(0, .ref a0), (1, .ref a1), (2, .int i2), (3, .int i3), (4, .int i4), (5, .int i5), (6, .long v2), (8, .long ((v2.toUInt64 >>> ((nI 1).toInt64.toUInt64 &&& Int64.toUInt64 63)).toInt64))]) C (by decide) [1, 2, 3, 4, 5, 6, 7, 0] dX9_readRuns_36 rfl ?_
        refine zm_lload C 7 rfl dX9_readRuns_38 ?_
        refine zm_lconst (v := lN 0) C (by decide) dX9_readRuns_40 ?_
        refine zm_lcmp C dX9_readRuns_41 ?_
        refine zm_if_ne (tgt := 53) C dX9_readRuns_42 (by decide) (fun z => ?_) (fun z => ?_)
        · replace w := w.1 z
          refine zm_lload C 6 rfl dX9_readRuns_53 ?_
          refine zm_lconst (v := lN 1) C (by decide) dX9_readRuns_55 ?_
          refine zm_land C dX9_readRuns_56 ?_
          refine zm_lconst (v := lN 0) C (by decide) dX9_readRuns_57 ?_
          refine zm_lcmp C dX9_readRuns_58 ?_
          refine zm_if_ne (tgt := 80) C dX9_readRuns_59 (by decide) (fun z => ?_) (fun z => ?_)
          · replace w := w.1 z
            refine zm_aload_n C rfl 0 rfl dX9_readRuns_80 ?_
            refine zm_aload_n C rfl 1 rfl dX9_readRuns_81 ?_
            refine zm_iload C 5 rfl dX9_readRuns_82 ?_
            refine zm_iload_n C rfl 2 rfl dX9_readRuns_84 ?_
            refine zm_iload_n C rfl 3 rfl dX9_readRuns_85 ?_
            refine zm_iload C 4 rfl dX9_readRuns_86 ?_
            refine zm_lload C 7 rfl dX9_readRuns_88 ?_
            obtain ⟨wr, w⟩ := w
            refine zm_Vi (As := [.ref a1, .int i5, .int i2, .int i3, .int i4, .long ((v2.toUInt64 >>> ((nI 1).toInt64.toUInt64 &&& Int64.toUInt64 63)).toInt64)]) (rest := []) C M_X9_readGroups sv_X9_88 rfl dX9_readRuns_90 rfl (Nat.le_of_ble_eq_true rfl) (by decide) (by decide) (by show nc + 0 ≤ 0; omega) (by show ns + 0 ≤ 0; omega) wr w (fun v4 h2 w => ?_)
            refine zm_istore (L' := [(0, .ref a0), (1, .ref a1), (2, .int i2), (3, .int i3), (4, .int i4), (5, .int v4), (6, .long v2), (8, .long ((v2.toUInt64 >>> ((nI 1).toInt64.toUInt64 &&& Int64.toUInt64 63)).toInt64))]) C (by decide) [1, 2, 3, 4, 5, 0, 6, 7] dX9_readRuns_93 rfl ?_
            refine zm_goto (tgt := 3) C dX9_readRuns_95 (by decide) ?_
            exact zm_loc [0, 1, 2, 3, 4, 5] rfl w
          · replace w := w.2 z
            refine zm_aload_n C rfl 0 rfl dX9_readRuns_62 ?_
            refine zm_aload_n C rfl 1 rfl dX9_readRuns_63 ?_
            refine zm_iload C 5 rfl dX9_readRuns_64 ?_
            refine zm_iload_n C rfl 2 rfl dX9_readRuns_66 ?_
            refine zm_iload_n C rfl 3 rfl dX9_readRuns_67 ?_
            refine zm_iload C 4 rfl dX9_readRuns_68 ?_
            refine zm_lload C 7 rfl dX9_readRuns_70 ?_
            obtain ⟨wr, w⟩ := w
            refine zm_Vi (As := [.ref a1, .int i5, .int i2, .int i3, .int i4, .long ((v2.toUInt64 >>> ((nI 1).toInt64.toUInt64 &&& Int64.toUInt64 63)).toInt64)]) (rest := []) C M_X9_readOne sv_X9_84 rfl dX9_readRuns_72 rfl (Nat.le_of_ble_eq_true rfl) (by decide) (by decide) (by show nc + 0 ≤ 0; omega) (by show ns + 0 ≤ 0; omega) wr w (fun v5 h3 w => ?_)
            refine zm_istore (L' := [(0, .ref a0), (1, .ref a1), (2, .int i2), (3, .int i3), (4, .int i4), (5, .int v5), (6, .long v2), (8, .long ((v2.toUInt64 >>> ((nI 1).toInt64.toUInt64 &&& Int64.toUInt64 63)).toInt64))]) C (by decide) [1, 2, 3, 4, 5, 0, 6, 7] dX9_readRuns_75 rfl ?_
            refine zm_goto (tgt := 95) C dX9_readRuns_77 (by decide) ?_
            refine zm_goto (tgt := 3) C dX9_readRuns_95 (by decide) ?_
            exact zm_loc [0, 1, 2, 3, 4, 5] rfl w
        · replace w := w.2 z
          refine zm_aload_n C rfl 0 rfl dX9_readRuns_45 ?_
          refine zm_iconst (v := nI 3) C (by decide) dX9_readRuns_46 ?_
          refine zm_put C ff_X9_58 ft_X9 fp_X9_9_17 rfl rfl dX9_readRuns_47 w (fun h4 w => ?_)
          refine zm_goto (tgt := 95) C dX9_readRuns_50 (by decide) ?_
          refine zm_goto (tgt := 3) C dX9_readRuns_95 (by decide) ?_
          exact zm_loc [0, 1, 2, 3, 4, 5] rfl w
      · replace w := w.2 z
        exact zm_return C Rt (by show nc ≤ 0; omega) (by show ns ≤ 0; omega) dX9_readRuns_31 w
set_option maxRecDepth 20000 in
theorem B_X9_readOne_0 {E : zm_E} {K : zm_K} {Post : zm_Po} {nc ns : Nat} (C : zm_Cx E K cX9_readOne RX9 2 25 0 0 11) (Rt : zm_Rt E Post 0 0 (some .int)) {a0 : Nat} {a1 : Nat} {i2 : Int32} {i3 : Int32} {i4 : Int32} {i5 : Int32} {l6 : Int64} {h : zm_H} (hnc : nc ≤ 0) (hns : ns ≤ 0) (w : ¬ (nI 8) = 0 ∧ ((lg_cmp l6 ((i3 - i2).toInt64)) ≤ 0 → zm_gI h a0 9 16 fun v1 => (((i4 + (nI 7)) / (nI 8)) ≤ (i5 - v1) → zm_gI h a0 9 17 fun v2 => (v2 = 0 → zm_gI h a0 9 16 fun v3 => zm_rc h a0 9 ∧ zm_ci K M_X9_bitsAt [.ref a0, .int v3, .int (nI 0), .int i4] h fun v4 h1 => zm_Go E nc ns 71 [(0, .ref a0), (1, .ref a1), (2, .int i2), (6, .long l6), (8, .int ((i4 + (nI 7)) / (nI 8))), (9, .int v4), (10, .int i4)] [] h1) ∧ (¬ v2 = 0 → Post (some (.int i2)) h)) ∧ (¬ ((i4 + (nI 7)) / (nI 8)) ≤ (i5 - v1) → zm_pf h a0 9 17 (.int (nI 1)) fun h2 => zm_gI h2 a0 9 17 fun v5 => (v5 = 0 → zm_gI h2 a0 9 16 fun v6 => zm_rc h2 a0 9 ∧ zm_ci K M_X9_bitsAt [.ref a0, .int v6, .int (nI 0), .int i4] h2 fun v7 h3 => zm_Go E nc ns 71 [(0, .ref a0), (1, .ref a1), (2, .int i2), (6, .long l6), (8, .int ((i4 + (nI 7)) / (nI 8))), (9, .int v7), (10, .int i4)] [] h3) ∧ (¬ v5 = 0 → Post (some (.int i2)) h2))) ∧ (¬ (lg_cmp l6 ((i3 - i2).toInt64)) ≤ 0 → zm_pf h a0 9 17 (.int (nI 4)) fun h4 => zm_gI h4 a0 9 17 fun v8 => (v8 = 0 → zm_gI h4 a0 9 16 fun v9 => zm_rc h4 a0 9 ∧ zm_ci K M_X9_bitsAt [.ref a0, .int v9, .int (nI 0), .int i4] h4 fun v10 h5 => zm_Go E nc ns 71 [(0, .ref a0), (1, .ref a1), (2, .int i2), (6, .long l6), (8, .int ((i4 + (nI 7)) / (nI 8))), (9, .int v10), (10, .int i4)] [] h5) ∧ (¬ v8 = 0 → Post (some (.int i2)) h4))) : zm_Go E nc ns 0 [(0, .ref a0), (1, .ref a1), (2, .int i2), (3, .int i3), (4, .int i4), (5, .int i5), (6, .long l6)] [] h := by
  refine zm_iload C 4 rfl dX9_readOne_0 ?_
  refine zm_bipush (v := nI 7) C (by decide) dX9_readOne_2 ?_
  refine zm_iadd C dX9_readOne_4 ?_
  refine zm_bipush (v := nI 8) C (by decide) dX9_readOne_5 ?_
  refine zm_idiv C w.1 dX9_readOne_7 ?_
  replace w := w.2
  refine zm_istore (L' := [(0, .ref a0), (1, .ref a1), (2, .int i2), (3, .int i3), (4, .int i4), (5, .int i5), (6, .long l6), (8, .int ((i4 + (nI 7)) / (nI 8)))]) C (by decide) [1, 2, 3, 4, 5, 6, 7, 0] dX9_readOne_8 rfl ?_
  refine zm_lload C 6 rfl dX9_readOne_10 ?_
  refine zm_iload_n C rfl 3 rfl dX9_readOne_12 ?_
  refine zm_iload_n C rfl 2 rfl dX9_readOne_13 ?_
  refine zm_isub C dX9_readOne_14 ?_
  refine zm_i2l C dX9_readOne_15 ?_
  refine zm_lcmp C dX9_readOne_16 ?_
  refine zm_if_le (tgt := 28) C dX9_readOne_17 (by decide) (fun z => ?_) (fun z => ?_)
  · replace w := w.1 z
    refine zm_iload C 5 rfl dX9_readOne_28 ?_
    refine zm_aload_n C rfl 0 rfl dX9_readOne_30 ?_
    refine zm_getI C ff_X9_61 dX9_readOne_31 w (fun v1 w => ?_)
    refine zm_isub C dX9_readOne_34 ?_
    refine zm_iload C 7 rfl dX9_readOne_35 ?_
    refine zm_icmp_ge (tgt := 45) C dX9_readOne_37 (by decide) (fun z => ?_) (fun z => ?_)
    · replace w := w.1 z
      refine zm_aload_n C rfl 0 rfl dX9_readOne_45 ?_
      refine zm_getI C ff_X9_58 dX9_readOne_46 w (fun v2 w => ?_)
      refine zm_if_eq (tgt := 54) C dX9_readOne_49 (by decide) (fun z => ?_) (fun z => ?_)
      · replace w := w.1 z
        refine zm_aload_n C rfl 0 rfl dX9_readOne_54 ?_
        refine zm_aload_n C rfl 0 rfl dX9_readOne_55 ?_
        refine zm_getI C ff_X9_61 dX9_readOne_56 w (fun v3 w => ?_)
        refine zm_iconst (v := nI 0) C (by decide) dX9_readOne_59 ?_
        refine zm_iload C 4 rfl dX9_readOne_60 ?_
        obtain ⟨wr, w⟩ := w
        refine zm_Vi (As := [.int v3, .int (nI 0), .int i4]) (rest := []) C M_X9_bitsAt sv_X9_91 rfl dX9_readOne_62 rfl (Nat.le_of_ble_eq_true rfl) (by decide) (by decide) (by show nc + 0 ≤ 0; omega) (by show ns + 0 ≤ 0; omega) wr w (fun v4 h1 w => ?_)
        refine zm_istore (L' := [(0, .ref a0), (1, .ref a1), (2, .int i2), (3, .int i3), (4, .int i4), (5, .int i5), (6, .long l6), (8, .int ((i4 + (nI 7)) / (nI 8))), (9, .int v4)]) C (by decide) [1, 2, 3, 4, 5, 6, 7, 8, 0] dX9_readOne_65 rfl ?_
        refine zm_iload C 4 rfl dX9_readOne_67 ?_
        refine zm_istore (L' := [(0, .ref a0), (1, .ref a1), (2, .int i2), (3, .int i3), (4, .int i4), (5, .int i5), (6, .long l6), (8, .int ((i4 + (nI 7)) / (nI 8))), (9, .int v4), (10, .int i4)]) C (by decide) [1, 2, 3, 4, 5, 6, 7, 8, 9, 0] dX9_readOne_69 rfl ?_
        exact zm_loc [0, 1, 2, 6, 7, 8, 9] rfl w
      · replace w := w.2 z
        refine zm_iload_n C rfl 2 rfl dX9_readOne_52 ?_
        exact zm_ireturn C Rt (by show nc ≤ 0; omega) (by show ns ≤ 0; omega) rfl dX9_readOne_53 w
    · replace w := w.2 z
      refine zm_aload_n C rfl 0 rfl dX9_readOne_40 ?_
      refine zm_iconst (v := nI 1) C (by decide) dX9_readOne_41 ?_
      refine zm_put C ff_X9_58 ft_X9 fp_X9_9_17 rfl rfl dX9_readOne_42 w (fun h2 w => ?_)
      refine zm_aload_n C rfl 0 rfl dX9_readOne_45 ?_
      refine zm_getI C ff_X9_58 dX9_readOne_46 w (fun v5 w => ?_)
      refine zm_if_eq (tgt := 54) C dX9_readOne_49 (by decide) (fun z => ?_) (fun z => ?_)
      · replace w := w.1 z
        refine zm_aload_n C rfl 0 rfl dX9_readOne_54 ?_
        refine zm_aload_n C rfl 0 rfl dX9_readOne_55 ?_
        refine zm_getI C ff_X9_61 dX9_readOne_56 w (fun v6 w => ?_)
        refine zm_iconst (v := nI 0) C (by decide) dX9_readOne_59 ?_
        refine zm_iload C 4 rfl dX9_readOne_60 ?_
        obtain ⟨wr, w⟩ := w
        refine zm_Vi (As := [.int v6, .int (nI 0), .int i4]) (rest := []) C M_X9_bitsAt sv_X9_91 rfl dX9_readOne_62 rfl (Nat.le_of_ble_eq_true rfl) (by decide) (by decide) (by show nc + 0 ≤ 0; omega) (by show ns + 0 ≤ 0; omega) wr w (fun v7 h3 w => ?_)
        refine zm_istore (L' := [(0, .ref a0), (1, .ref a1), (2, .int i2), (3, .int i3), (4, .int i4), (5, .int i5), (6, .long l6), (8, .int ((i4 + (nI 7)) / (nI 8))), (9, .int v7)]) C (by decide) [1, 2, 3, 4, 5, 6, 7, 8, 0] dX9_readOne_65 rfl ?_
        refine zm_iload C 4 rfl dX9_readOne_67 ?_
        refine zm_istore (L' := [(0, .ref a0), (1, .ref a1), (2, .int i2), (3, .int i3), (4, .int i4), (5, .int i5), (6, .long l6), (8, .int ((i4 + (nI 7)) / (nI 8))), (9, .int v7), (10, .int i4)]) C (by decide) [1, 2, 3, 4, 5, 6, 7, 8, 9, 0] dX9_readOne_69 rfl ?_
        exact zm_loc [0, 1, 2, 6, 7, 8, 9] rfl w
      · replace w := w.2 z
        refine zm_iload_n C rfl 2 rfl dX9_readOne_52 ?_
        exact zm_ireturn C Rt (by show nc ≤ 0; omega) (by show ns ≤ 0; omega) rfl dX9_readOne_53 w
  · replace w := w.2 z
    refine zm_aload_n C rfl 0 rfl dX9_readOne_20 ?_
    refine zm_iconst (v := nI 4) C (by decide) dX9_readOne_21 ?_
    refine zm_put C ff_X9_58 ft_X9 fp_X9_9_17 rfl rfl dX9_readOne_22 w (fun h4 w => ?_)
    refine zm_goto (tgt := 45) C dX9_readOne_25 (by decide) ?_
    refine zm_aload_n C rfl 0 rfl dX9_readOne_45 ?_
    refine zm_getI C ff_X9_58 dX9_readOne_46 w (fun v8 w => ?_)
    refine zm_if_eq (tgt := 54) C dX9_readOne_49 (by decide) (fun z => ?_) (fun z => ?_)
    · replace w := w.1 z
      refine zm_aload_n C rfl 0 rfl dX9_readOne_54 ?_
      refine zm_aload_n C rfl 0 rfl dX9_readOne_55 ?_
      refine zm_getI C ff_X9_61 dX9_readOne_56 w (fun v9 w => ?_)
      refine zm_iconst (v := nI 0) C (by decide) dX9_readOne_59 ?_
      refine zm_iload C 4 rfl dX9_readOne_60 ?_
      obtain ⟨wr, w⟩ := w
      refine zm_Vi (As := [.int v9, .int (nI 0), .int i4]) (rest := []) C M_X9_bitsAt sv_X9_91 rfl dX9_readOne_62 rfl (Nat.le_of_ble_eq_true rfl) (by decide) (by decide) (by show nc + 0 ≤ 0; omega) (by show ns + 0 ≤ 0; omega) wr w (fun v10 h5 w => ?_)
      refine zm_istore (L' := [(0, .ref a0), (1, .ref a1), (2, .int i2), (3, .int i3), (4, .int i4), (5, .int i5), (6, .long l6), (8, .int ((i4 + (nI 7)) / (nI 8))), (9, .int v10)]) C (by decide) [1, 2, 3, 4, 5, 6, 7, 8, 0] dX9_readOne_65 rfl ?_
      refine zm_iload C 4 rfl dX9_readOne_67 ?_
      refine zm_istore (L' := [(0, .ref a0), (1, .ref a1), (2, .int i2), (3, .int i3), (4, .int i4), (5, .int i5), (6, .long l6), (8, .int ((i4 + (nI 7)) / (nI 8))), (9, .int v10), (10, .int i4)]) C (by decide) [1, 2, 3, 4, 5, 6, 7, 8, 9, 0] dX9_readOne_69 rfl ?_
      exact zm_loc [0, 1, 2, 6, 7, 8, 9] rfl w
    · replace w := w.2 z
      refine zm_iload_n C rfl 2 rfl dX9_readOne_52 ?_
      exact zm_ireturn C Rt (by show nc ≤ 0; omega) (by show ns ≤ 0; omega) rfl dX9_readOne_53 w
set_option maxRecDepth 20000 in
theorem B_X9_readOne_71 {E : zm_E} {K : zm_K} {Post : zm_Po} {nc ns : Nat} (C : zm_Cx E K cX9_readOne RX9 2 25 0 0 11) (Rt : zm_Rt E Post 0 0 (some .int)) {a0 : Nat} {a1 : Nat} {i2 : Int32} {l6 : Int64} {i8 : Int32} {i9 : Int32} {i10 : Int32} {h : zm_H} (w : (((nI 8) * i8) ≤ i10 → zm_gI h a0 9 16 fun v1 => zm_pf h a0 9 16 (.int (v1 + i8)) fun h1 => zm_Go E nc ns 133 [(1, .ref a1), (2, .int i2), (6, .long l6), (9, .int i9), (10, .int (nI 0))] [] h1) ∧ (¬ ((nI 8) * i8) ≤ i10 → zm_gR h a0 9 11 fun v2 => zm_gI h a0 9 16 fun v3 => ¬ (nI 8) = 0 ∧ zm_ld K 1 h v2 (v3 + (i10 / (nI 8))) fun v4 => ¬ (nI 8) = 0 ∧ (¬ ((v4 >>> ((i10 - i10 / (nI 8) * (nI 8)) &&& 31)) &&& (nI 1)) = (nI 1) → zm_Go E nc ns 71 [(0, .ref a0), (1, .ref a1), (2, .int i2), (6, .long l6), (8, .int i8), (9, .int i9), (10, .int (i10 + (nI 1)))] [] h) ∧ (((v4 >>> ((i10 - i10 / (nI 8) * (nI 8)) &&& 31)) &&& (nI 1)) = (nI 1) → zm_pf h a0 9 17 (.int (nI 5)) fun h2 => zm_Go E nc ns 71 [(0, .ref a0), (1, .ref a1), (2, .int i2), (6, .long l6), (8, .int i8), (9, .int i9), (10, .int (i10 + (nI 1)))] [] h2))) : zm_Go E nc ns 71 [(0, .ref a0), (1, .ref a1), (2, .int i2), (6, .long l6), (8, .int i8), (9, .int i9), (10, .int i10)] [] h := by
  refine zm_iload C 6 rfl dX9_readOne_71 ?_
  refine zm_bipush (v := nI 8) C (by decide) dX9_readOne_73 ?_
  refine zm_iload C 4 rfl dX9_readOne_75 ?_
  refine zm_imul C dX9_readOne_77 ?_
  refine zm_icmp_ge (tgt := 119) C dX9_readOne_78 (by decide) (fun z => ?_) (fun z => ?_)
  · replace w := w.1 z
    refine zm_aload_n C rfl 0 rfl dX9_readOne_119 ?_
    refine zm_dup C rfl dX9_readOne_120 ?_
    refine zm_getI C ff_X9_61 dX9_readOne_121 w (fun v1 w => ?_)
    refine zm_iload C 4 rfl dX9_readOne_124 ?_
    refine zm_iadd C dX9_readOne_126 ?_
    refine zm_put C ff_X9_61 ft_X9 fp_X9_9_16 rfl rfl dX9_readOne_127 w (fun h1 w => ?_)
    refine zm_iconst (v := nI 0) C (by decide) dX9_readOne_130 ?_
    refine zm_istore (L' := [(0, .ref a0), (1, .ref a1), (2, .int i2), (6, .long l6), (8, .int i8), (9, .int i9), (10, .int (nI 0))]) C (by decide) [1, 2, 3, 4, 5, 6, 0] dX9_readOne_131 rfl ?_
    exact zm_loc [1, 2, 3, 5, 6] rfl w
  · replace w := w.2 z
    refine zm_aload_n C rfl 0 rfl dX9_readOne_81 ?_
    refine zm_getR C ff_X9_31 dX9_readOne_82 w (fun v2 w => ?_)
    refine zm_aload_n C rfl 0 rfl dX9_readOne_85 ?_
    refine zm_getI C ff_X9_61 dX9_readOne_86 w (fun v3 w => ?_)
    refine zm_iload C 6 rfl dX9_readOne_89 ?_
    refine zm_bipush (v := nI 8) C (by decide) dX9_readOne_91 ?_
    refine zm_idiv C w.1 dX9_readOne_93 ?_
    replace w := w.2
    refine zm_iadd C dX9_readOne_94 ?_
    refine zm_ldI C dX9_readOne_95 w (fun v4 w => ?_)
    refine zm_iload C 6 rfl dX9_readOne_96 ?_
    refine zm_bipush (v := nI 8) C (by decide) dX9_readOne_98 ?_
    refine zm_irem C w.1 dX9_readOne_100 ?_
    replace w := w.2
    refine zm_ishr C dX9_readOne_101 ?_
    refine zm_iconst (v := nI 1) C (by decide) dX9_readOne_102 ?_
    refine zm_iand C dX9_readOne_103 ?_
    refine zm_iconst (v := nI 1) C (by decide) dX9_readOne_104 ?_
    refine zm_icmp_ne (tgt := 113) C dX9_readOne_105 (by decide) (fun z => ?_) (fun z => ?_)
    · replace w := w.1 z
      refine zm_iinc (L' := [(0, .ref a0), (1, .ref a1), (2, .int i2), (6, .long l6), (8, .int i8), (9, .int i9), (10, .int (i10 + (nI 1)))]) C (by decide) 6 [1, 2, 3, 4, 5, 6, 0] dX9_readOne_113 rfl rfl rfl ?_
      refine zm_goto (tgt := 71) C dX9_readOne_116 (by decide) ?_
      exact w
    · replace w := w.2 z
      refine zm_aload_n C rfl 0 rfl dX9_readOne_108 ?_
      refine zm_iconst (v := nI 5) C (by decide) dX9_readOne_109 ?_
      refine zm_put C ff_X9_58 ft_X9 fp_X9_9_17 rfl rfl dX9_readOne_110 w (fun h2 w => ?_)
      refine zm_iinc (L' := [(0, .ref a0), (1, .ref a1), (2, .int i2), (6, .long l6), (8, .int i8), (9, .int i9), (10, .int (i10 + (nI 1)))]) C (by decide) 6 [1, 2, 3, 4, 5, 6, 0] dX9_readOne_113 rfl rfl rfl ?_
      refine zm_goto (tgt := 71) C dX9_readOne_116 (by decide) ?_
      exact w
set_option maxRecDepth 20000 in
theorem B_X9_readOne_133 {E : zm_E} {K : zm_K} {Post : zm_Po} {nc ns : Nat} (C : zm_Cx E K cX9_readOne RX9 2 25 0 0 11) (Rt : zm_Rt E Post 0 0 (some .int)) {a1 : Nat} {i2 : Int32} {l6 : Int64} {i9 : Int32} {i10 : Int32} {h : zm_H} (hnc : nc ≤ 0) (hns : ns ≤ 0) (w : (0 ≤ (lg_cmp i10.toInt64 l6) → Post (some (.int (i2 + l6.toInt32))) h) ∧ (¬ 0 ≤ (lg_cmp i10.toInt64 l6) → zm_sI K h a1 (i2 + i10) i9 fun h1 => zm_Go E nc ns 133 [(1, .ref a1), (2, .int i2), (6, .long l6), (9, .int i9), (10, .int (i10 + (nI 1)))] [] h1)) : zm_Go E nc ns 133 [(1, .ref a1), (2, .int i2), (6, .long l6), (9, .int i9), (10, .int i10)] [] h := by
  refine zm_iload C 4 rfl dX9_readOne_133 ?_
  refine zm_i2l C dX9_readOne_135 ?_
  refine zm_lload C 2 rfl dX9_readOne_136 ?_
  refine zm_lcmp C dX9_readOne_138 ?_
  refine zm_if_ge (tgt := 156) C dX9_readOne_139 (by decide) (fun z => ?_) (fun z => ?_)
  · replace w := w.1 z
    refine zm_iload_n C rfl 1 rfl dX9_readOne_156 ?_
    refine zm_lload C 2 rfl dX9_readOne_157 ?_
    refine zm_l2i C dX9_readOne_159 ?_
    refine zm_iadd C dX9_readOne_160 ?_
    exact zm_ireturn C Rt (by show nc ≤ 0; omega) (by show ns ≤ 0; omega) rfl dX9_readOne_161 w
  · replace w := w.2 z
    refine zm_aload_n C rfl 0 rfl dX9_readOne_142 ?_
    refine zm_iload_n C rfl 1 rfl dX9_readOne_143 ?_
    refine zm_iload C 4 rfl dX9_readOne_144 ?_
    refine zm_iadd C dX9_readOne_146 ?_
    refine zm_iload C 3 rfl dX9_readOne_147 ?_
    refine zm_stI C dX9_readOne_149 w (fun h1 w => ?_)
    refine zm_iinc (L' := [(1, .ref a1), (2, .int i2), (6, .long l6), (9, .int i9), (10, .int (i10 + (nI 1)))]) C (by decide) 4 [1, 2, 3, 4, 0] dX9_readOne_150 rfl rfl rfl ?_
    refine zm_goto (tgt := 133) C dX9_readOne_153 (by decide) ?_
    exact w
set_option maxRecDepth 20000 in
theorem B_X9_readGroups_0 {E : zm_E} {K : zm_K} {Post : zm_Po} {nc ns : Nat} (C : zm_Cx E K cX9_readGroups RX9 2 25 0 0 10) (Rt : zm_Rt E Post 0 0 (some .int)) {a0 : Nat} {a1 : Nat} {i2 : Int32} {i3 : Int32} {i4 : Int32} {i5 : Int32} {l6 : Int64} {h : zm_H} (hnc : nc ≤ 0) (hns : ns ≤ 0) (w : ¬ (nI 8) = 0 ∧ ((lg_cmp l6 ((((i3 - i2) + (nI 7)) / (nI 8)).toInt64)) ≤ 0 → zm_gI h a0 9 16 fun v1 => (0 ≤ (lg_cmp ((i5 - v1).toInt64) (l6 * i4.toInt64)) → zm_gI h a0 9 17 fun v2 => (v2 = 0 → zm_Go E nc ns 59 [(0, .ref a0), (1, .ref a1), (2, .int i2), (3, .int i3), (4, .int i4), (6, .long l6), (8, .int (nI 0))] [] h) ∧ (¬ v2 = 0 → Post (some (.int i2)) h)) ∧ (¬ 0 ≤ (lg_cmp ((i5 - v1).toInt64) (l6 * i4.toInt64)) → zm_pf h a0 9 17 (.int (nI 1)) fun h1 => zm_gI h1 a0 9 17 fun v3 => (v3 = 0 → zm_Go E nc ns 59 [(0, .ref a0), (1, .ref a1), (2, .int i2), (3, .int i3), (4, .int i4), (6, .long l6), (8, .int (nI 0))] [] h1) ∧ (¬ v3 = 0 → Post (some (.int i2)) h1))) ∧ (¬ (lg_cmp l6 ((((i3 - i2) + (nI 7)) / (nI 8)).toInt64)) ≤ 0 → zm_pf h a0 9 17 (.int (nI 4)) fun h2 => zm_gI h2 a0 9 17 fun v4 => (v4 = 0 → zm_Go E nc ns 59 [(0, .ref a0), (1, .ref a1), (2, .int i2), (3, .int i3), (4, .int i4), (6, .long l6), (8, .int (nI 0))] [] h2) ∧ (¬ v4 = 0 → Post (some (.int i2)) h2))) : zm_Go E nc ns 0 [(0, .ref a0), (1, .ref a1), (2, .int i2), (3, .int i3), (4, .int i4), (5, .int i5), (6, .long l6)] [] h := by
  refine zm_lload C 6 rfl dX9_readGroups_0 ?_
  refine zm_iload_n C rfl 3 rfl dX9_readGroups_2 ?_
  refine zm_iload_n C rfl 2 rfl dX9_readGroups_3 ?_
  refine zm_isub C dX9_readGroups_4 ?_
  refine zm_bipush (v := nI 7) C (by decide) dX9_readGroups_5 ?_
  refine zm_iadd C dX9_readGroups_7 ?_
  refine zm_bipush (v := nI 8) C (by decide) dX9_readGroups_8 ?_
  refine zm_idiv C w.1 dX9_readGroups_10 ?_
  replace w := w.2
  refine zm_i2l C dX9_readGroups_11 ?_
  refine zm_lcmp C dX9_readGroups_12 ?_
  refine zm_if_le (tgt := 24) C dX9_readGroups_13 (by decide) (fun z => ?_) (fun z => ?_)
  · replace w := w.1 z
    refine zm_iload C 5 rfl dX9_readGroups_24 ?_
    refine zm_aload_n C rfl 0 rfl dX9_readGroups_26 ?_
    refine zm_getI C ff_X9_61 dX9_readGroups_27 w (fun v1 w => ?_)
    refine zm_isub C dX9_readGroups_30 ?_
    refine zm_i2l C dX9_readGroups_31 ?_
    refine zm_lload C 6 rfl dX9_readGroups_32 ?_
    refine zm_iload C 4 rfl dX9_readGroups_34 ?_
    refine zm_i2l C dX9_readGroups_36 ?_
    refine zm_lmul C dX9_readGroups_37 ?_
    refine zm_lcmp C dX9_readGroups_38 ?_
    refine zm_if_ge (tgt := 47) C dX9_readGroups_39 (by decide) (fun z => ?_) (fun z => ?_)
    · replace w := w.1 z
      refine zm_aload_n C rfl 0 rfl dX9_readGroups_47 ?_
      refine zm_getI C ff_X9_58 dX9_readGroups_48 w (fun v2 w => ?_)
      refine zm_if_eq (tgt := 56) C dX9_readGroups_51 (by decide) (fun z => ?_) (fun z => ?_)
      · replace w := w.1 z
        refine zm_iconst (v := nI 0) C (by decide) dX9_readGroups_56 ?_
        refine zm_istore (L' := [(0, .ref a0), (1, .ref a1), (2, .int i2), (3, .int i3), (4, .int i4), (5, .int i5), (6, .long l6), (8, .int (nI 0))]) C (by decide) [1, 2, 3, 4, 5, 6, 7, 0] dX9_readGroups_57 rfl ?_
        exact zm_loc [0, 1, 2, 3, 4, 6, 7] rfl w
      · replace w := w.2 z
        refine zm_iload_n C rfl 2 rfl dX9_readGroups_54 ?_
        exact zm_ireturn C Rt (by show nc ≤ 0; omega) (by show ns ≤ 0; omega) rfl dX9_readGroups_55 w
    · replace w := w.2 z
      refine zm_aload_n C rfl 0 rfl dX9_readGroups_42 ?_
      refine zm_iconst (v := nI 1) C (by decide) dX9_readGroups_43 ?_
      refine zm_put C ff_X9_58 ft_X9 fp_X9_9_17 rfl rfl dX9_readGroups_44 w (fun h1 w => ?_)
      refine zm_aload_n C rfl 0 rfl dX9_readGroups_47 ?_
      refine zm_getI C ff_X9_58 dX9_readGroups_48 w (fun v3 w => ?_)
      refine zm_if_eq (tgt := 56) C dX9_readGroups_51 (by decide) (fun z => ?_) (fun z => ?_)
      · replace w := w.1 z
        refine zm_iconst (v := nI 0) C (by decide) dX9_readGroups_56 ?_
        refine zm_istore (L' := [(0, .ref a0), (1, .ref a1), (2, .int i2), (3, .int i3), (4, .int i4), (5, .int i5), (6, .long l6), (8, .int (nI 0))]) C (by decide) [1, 2, 3, 4, 5, 6, 7, 0] dX9_readGroups_57 rfl ?_
        exact zm_loc [0, 1, 2, 3, 4, 6, 7] rfl w
      · replace w := w.2 z
        refine zm_iload_n C rfl 2 rfl dX9_readGroups_54 ?_
        exact zm_ireturn C Rt (by show nc ≤ 0; omega) (by show ns ≤ 0; omega) rfl dX9_readGroups_55 w
  · replace w := w.2 z
    refine zm_aload_n C rfl 0 rfl dX9_readGroups_16 ?_
    refine zm_iconst (v := nI 4) C (by decide) dX9_readGroups_17 ?_
    refine zm_put C ff_X9_58 ft_X9 fp_X9_9_17 rfl rfl dX9_readGroups_18 w (fun h2 w => ?_)
    refine zm_goto (tgt := 47) C dX9_readGroups_21 (by decide) ?_
    refine zm_aload_n C rfl 0 rfl dX9_readGroups_47 ?_
    refine zm_getI C ff_X9_58 dX9_readGroups_48 w (fun v4 w => ?_)
    refine zm_if_eq (tgt := 56) C dX9_readGroups_51 (by decide) (fun z => ?_) (fun z => ?_)
    · replace w := w.1 z
      refine zm_iconst (v := nI 0) C (by decide) dX9_readGroups_56 ?_
      refine zm_istore (L' := [(0, .ref a0), (1, .ref a1), (2, .int i2), (3, .int i3), (4, .int i4), (5, .int i5), (6, .long l6), (8, .int (nI 0))]) C (by decide) [1, 2, 3, 4, 5, 6, 7, 0] dX9_readGroups_57 rfl ?_
      exact zm_loc [0, 1, 2, 3, 4, 6, 7] rfl w
    · replace w := w.2 z
      refine zm_iload_n C rfl 2 rfl dX9_readGroups_54 ?_
      exact zm_ireturn C Rt (by show nc ≤ 0; omega) (by show ns ≤ 0; omega) rfl dX9_readGroups_55 w
set_option maxRecDepth 20000 in
theorem B_X9_readGroups_59 {E : zm_E} {K : zm_K} {Post : zm_Po} {nc ns : Nat} (C : zm_Cx E K cX9_readGroups RX9 2 25 0 0 10) (Rt : zm_Rt E Post 0 0 (some .int)) {a0 : Nat} {a1 : Nat} {i2 : Int32} {i3 : Int32} {i4 : Int32} {l6 : Int64} {i8 : Int32} {h : zm_H} (hnc : nc ≤ 0) (hns : ns ≤ 0) (w : (0 ≤ (lg_cmp i8.toInt64 ((lN 8) * l6)) → zm_gI h a0 9 16 fun v1 => zm_pf h a0 9 16 (.int (v1 + (l6.toInt32 * i4))) fun h1 => Post (some (.int (i2 + ((nI 8) * l6.toInt32)))) h1) ∧ (¬ 0 ≤ (lg_cmp i8.toInt64 ((lN 8) * l6)) → zm_gI h a0 9 16 fun v2 => zm_rc h a0 9 ∧ zm_ci K M_X9_bitsAt [.ref a0, .int v2, .int (i4 * i8), .int i4] h fun v3 h2 => (i3 ≤ (i2 + i8) → (v3 = 0 → zm_Go E nc ns 59 [(0, .ref a0), (1, .ref a1), (2, .int i2), (3, .int i3), (4, .int i4), (6, .long l6), (8, .int (i8 + (nI 1)))] [] h2) ∧ (¬ v3 = 0 → zm_pf h2 a0 9 17 (.int (nI 5)) fun h3 => zm_Go E nc ns 59 [(0, .ref a0), (1, .ref a1), (2, .int i2), (3, .int i3), (4, .int i4), (6, .long l6), (8, .int (i8 + (nI 1)))] [] h3)) ∧ (¬ i3 ≤ (i2 + i8) → zm_sI K h2 a1 (i2 + i8) v3 fun h4 => zm_Go E nc ns 59 [(0, .ref a0), (1, .ref a1), (2, .int i2), (3, .int i3), (4, .int i4), (6, .long l6), (8, .int (i8 + (nI 1)))] [] h4))) : zm_Go E nc ns 59 [(0, .ref a0), (1, .ref a1), (2, .int i2), (3, .int i3), (4, .int i4), (6, .long l6), (8, .int i8)] [] h := by
  refine zm_iload C 6 rfl dX9_readGroups_59 ?_
  refine zm_i2l C dX9_readGroups_61 ?_
  refine zm_ldc2 (v := lN 8) C (zm_inG (by decide +kernel) rfl) dX9_readGroups_62 ?_
  refine zm_lload C 5 rfl dX9_readGroups_65 ?_
  refine zm_lmul C dX9_readGroups_67 ?_
  refine zm_lcmp C dX9_readGroups_68 ?_
  refine zm_if_ge (tgt := 124) C dX9_readGroups_69 (by decide) (fun z => ?_) (fun z => ?_)
  · replace w := w.1 z
    refine zm_aload_n C rfl 0 rfl dX9_readGroups_124 ?_
    refine zm_dup C rfl dX9_readGroups_125 ?_
    refine zm_getI C ff_X9_61 dX9_readGroups_126 w (fun v1 w => ?_)
    refine zm_lload C 5 rfl dX9_readGroups_129 ?_
    refine zm_l2i C dX9_readGroups_131 ?_
    refine zm_iload C 4 rfl dX9_readGroups_132 ?_
    refine zm_imul C dX9_readGroups_134 ?_
    refine zm_iadd C dX9_readGroups_135 ?_
    refine zm_put C ff_X9_61 ft_X9 fp_X9_9_16 rfl rfl dX9_readGroups_136 w (fun h1 w => ?_)
    refine zm_iload_n C rfl 2 rfl dX9_readGroups_139 ?_
    refine zm_bipush (v := nI 8) C (by decide) dX9_readGroups_140 ?_
    refine zm_lload C 5 rfl dX9_readGroups_142 ?_
    refine zm_l2i C dX9_readGroups_144 ?_
    refine zm_imul C dX9_readGroups_145 ?_
    refine zm_iadd C dX9_readGroups_146 ?_
    exact zm_ireturn C Rt (by show nc ≤ 0; omega) (by show ns ≤ 0; omega) rfl dX9_readGroups_147 w
  · replace w := w.2 z
    refine zm_aload_n C rfl 0 rfl dX9_readGroups_72 ?_
    refine zm_aload_n C rfl 0 rfl dX9_readGroups_73 ?_
    refine zm_getI C ff_X9_61 dX9_readGroups_74 w (fun v2 w => ?_)
    refine zm_iload C 4 rfl dX9_readGroups_77 ?_
    refine zm_iload C 6 rfl dX9_readGroups_79 ?_
    refine zm_imul C dX9_readGroups_81 ?_
    refine zm_iload C 4 rfl dX9_readGroups_82 ?_
    obtain ⟨wr, w⟩ := w
    refine zm_Vi (As := [.int v2, .int (i4 * i8), .int i4]) (rest := []) C M_X9_bitsAt sv_X9_91 rfl dX9_readGroups_84 rfl (Nat.le_of_ble_eq_true rfl) (by decide) (by decide) (by show nc + 0 ≤ 0; omega) (by show ns + 0 ≤ 0; omega) wr w (fun v3 h2 w => ?_)
    refine zm_istore (L' := [(0, .ref a0), (1, .ref a1), (2, .int i2), (3, .int i3), (4, .int i4), (6, .long l6), (8, .int i8), (9, .int v3)]) C (by decide) [1, 2, 3, 4, 5, 6, 7, 0] dX9_readGroups_87 rfl ?_
    refine zm_iload_n C rfl 2 rfl dX9_readGroups_89 ?_
    refine zm_iload C 6 rfl dX9_readGroups_90 ?_
    refine zm_iadd C dX9_readGroups_92 ?_
    refine zm_iload_n C rfl 3 rfl dX9_readGroups_93 ?_
    refine zm_icmp_ge (tgt := 108) C dX9_readGroups_94 (by decide) (fun z => ?_) (fun z => ?_)
    · replace w := w.1 z
      refine zm_iload C 7 rfl dX9_readGroups_108 ?_
      refine zm_if_eq (tgt := 118) C dX9_readGroups_110 (by decide) (fun z => ?_) (fun z => ?_)
      · replace w := w.1 z
        refine zm_iinc (L' := [(0, .ref a0), (1, .ref a1), (2, .int i2), (3, .int i3), (4, .int i4), (6, .long l6), (8, .int (i8 + (nI 1))), (9, .int v3)]) C (by decide) 6 [1, 2, 3, 4, 5, 6, 0, 7] dX9_readGroups_118 rfl rfl rfl ?_
        refine zm_goto (tgt := 59) C dX9_readGroups_121 (by decide) ?_
        exact zm_loc [0, 1, 2, 3, 4, 5, 6] rfl w
      · replace w := w.2 z
        refine zm_aload_n C rfl 0 rfl dX9_readGroups_113 ?_
        refine zm_iconst (v := nI 5) C (by decide) dX9_readGroups_114 ?_
        refine zm_put C ff_X9_58 ft_X9 fp_X9_9_17 rfl rfl dX9_readGroups_115 w (fun h3 w => ?_)
        refine zm_iinc (L' := [(0, .ref a0), (1, .ref a1), (2, .int i2), (3, .int i3), (4, .int i4), (6, .long l6), (8, .int (i8 + (nI 1))), (9, .int v3)]) C (by decide) 6 [1, 2, 3, 4, 5, 6, 0, 7] dX9_readGroups_118 rfl rfl rfl ?_
        refine zm_goto (tgt := 59) C dX9_readGroups_121 (by decide) ?_
        exact zm_loc [0, 1, 2, 3, 4, 5, 6] rfl w
    · replace w := w.2 z
      refine zm_aload_n C rfl 1 rfl dX9_readGroups_97 ?_
      refine zm_iload_n C rfl 2 rfl dX9_readGroups_98 ?_
      refine zm_iload C 6 rfl dX9_readGroups_99 ?_
      refine zm_iadd C dX9_readGroups_101 ?_
      refine zm_iload C 7 rfl dX9_readGroups_102 ?_
      refine zm_stI C dX9_readGroups_104 w (fun h4 w => ?_)
      refine zm_goto (tgt := 118) C dX9_readGroups_105 (by decide) ?_
      refine zm_iinc (L' := [(0, .ref a0), (1, .ref a1), (2, .int i2), (3, .int i3), (4, .int i4), (6, .long l6), (8, .int (i8 + (nI 1))), (9, .int v3)]) C (by decide) 6 [1, 2, 3, 4, 5, 6, 0, 7] dX9_readGroups_118 rfl rfl rfl ?_
      refine zm_goto (tgt := 59) C dX9_readGroups_121 (by decide) ?_
      exact zm_loc [0, 1, 2, 3, 4, 5, 6] rfl w
set_option maxRecDepth 20000 in
theorem B_X9_zigzag_0 {E : zm_E} {K : zm_K} {Post : zm_Po} {nc ns : Nat} (C : zm_Cx E K cX9_zigzag RX9 1 0 0 0 2) (Rt : zm_Rt E Post 0 0 (some .long)) {l0 : Int64} {h : zm_H} (hnc : nc ≤ 0) (hns : ns ≤ 0) (w : (0 ≤ (lg_cmp l0 (lN 0)) → Post (some (.long ((lN 2) * l0))) h) ∧ (¬ 0 ≤ (lg_cmp l0 (lN 0)) → Post (some (.long (((-2) * l0) - (lN 1)))) h)) : zm_Go E nc ns 0 [(0, .long l0)] [] h := by
  refine zm_lload_n C rfl 0 rfl dX9_zigzag_0 ?_
  refine zm_lconst (v := lN 0) C (by decide) dX9_zigzag_1 ?_
  refine zm_lcmp C dX9_zigzag_2 ?_
  refine zm_if_ge (tgt := 16) C dX9_zigzag_3 (by decide) (fun z => ?_) (fun z => ?_)
  · replace w := w.1 z
    refine zm_ldc2 (v := lN 2) C (zm_inG (by decide +kernel) rfl) dX9_zigzag_16 ?_
    refine zm_lload_n C rfl 0 rfl dX9_zigzag_19 ?_
    refine zm_lmul C dX9_zigzag_20 ?_
    exact zm_lreturn C Rt (by show nc ≤ 0; omega) (by show ns ≤ 0; omega) dX9_zigzag_21 w
  · replace w := w.2 z
    refine zm_ldc2 (v := (-2)) C (zm_inG (by decide +kernel) rfl) dX9_zigzag_6 ?_
    refine zm_lload_n C rfl 0 rfl dX9_zigzag_9 ?_
    refine zm_lmul C dX9_zigzag_10 ?_
    refine zm_lconst (v := lN 1) C (by decide) dX9_zigzag_11 ?_
    refine zm_lsub C dX9_zigzag_12 ?_
    refine zm_goto (tgt := 21) C dX9_zigzag_13 (by decide) ?_
    exact zm_lreturn C Rt (by show nc ≤ 0; omega) (by show ns ≤ 0; omega) dX9_zigzag_21 w
set_option maxRecDepth 20000 in
theorem B_X9_unzigzag_0 {E : zm_E} {K : zm_K} {Post : zm_Po} {nc ns : Nat} (C : zm_Cx E K cX9_unzigzag RX9 1 0 0 0 2) (Rt : zm_Rt E Post 0 0 (some .long)) {l0 : Int64} {h : zm_H} (hnc : nc ≤ 0) (hns : ns ≤ 0) (w : (¬ (lg_cmp (l0 &&& (lN 1)) (lN 0)) = 0 → Post (some (.long ((-((l0.toUInt64 >>> ((nI 1).toInt64.toUInt64 &&& Int64.toUInt64 63)).toInt64)) - (lN 1)))) h) ∧ ((lg_cmp (l0 &&& (lN 1)) (lN 0)) = 0 → Post (some (.long ((l0.toUInt64 >>> ((nI 1).toInt64.toUInt64 &&& Int64.toUInt64 63)).toInt64))) h)) : zm_Go E nc ns 0 [(0, .long l0)] [] h := by
  refine zm_lload_n C rfl 0 rfl dX9_unzigzag_0 ?_
  refine zm_lconst (v := lN 1) C (by decide) dX9_unzigzag_1 ?_
  refine zm_land C dX9_unzigzag_2 ?_
  refine zm_lconst (v := lN 0) C (by decide) dX9_unzigzag_3 ?_
  refine zm_lcmp C dX9_unzigzag_4 ?_
  refine zm_if_ne (tgt := 14) C dX9_unzigzag_5 (by decide) (fun z => ?_) (fun z => ?_)
  · replace w := w.1 z
    refine zm_lload_n C rfl 0 rfl dX9_unzigzag_14 ?_
    refine zm_iconst (v := nI 1) C (by decide) dX9_unzigzag_15 ?_
    refine zm_lushr C dX9_unzigzag_16 ?_
    refine zm_lneg C dX9_unzigzag_17 ?_
    refine zm_lconst (v := lN 1) C (by decide) dX9_unzigzag_18 ?_
    refine zm_lsub C dX9_unzigzag_19 ?_
    exact zm_lreturn C Rt (by show nc ≤ 0; omega) (by show ns ≤ 0; omega) dX9_unzigzag_20 w
  · replace w := w.2 z
    refine zm_lload_n C rfl 0 rfl dX9_unzigzag_8 ?_
    refine zm_iconst (v := nI 1) C (by decide) dX9_unzigzag_9 ?_
    refine zm_lushr C dX9_unzigzag_10 ?_
    refine zm_goto (tgt := 20) C dX9_unzigzag_11 (by decide) ?_
    exact zm_lreturn C Rt (by show nc ≤ 0; omega) (by show ns ≤ 0; omega) dX9_unzigzag_20 w
set_option maxRecDepth 20000 in
theorem B_X9_writeCode_0 {E : zm_E} {K : zm_K} {Post : zm_Po} {nc ns : Nat} (C : zm_Cx E K cX9_writeCode RX9 4 75 0 0 3) (Rt : zm_Rt E Post 0 0 none) {a0 : Nat} {h : zm_H} (hnc : nc ≤ 0) (hns : ns ≤ 0) (w : zm_gI h a0 9 15 fun v1 => zm_rc h a0 9 ∧ zm_cv K M_X9_writeLongs [.ref a0] h fun h1 => zm_gI h1 a0 9 15 fun v2 => zm_pf h1 a0 9 15 (.int v1) fun h2 => zm_rc h2 a0 9 ∧ zm_cv K M_X9_putVarint [.ref a0, .long ((v2 - v1).toInt64)] h2 fun h3 => zm_rc h3 a0 9 ∧ zm_cv K M_X9_writeLongs [.ref a0] h3 fun h4 => Post none h4) : zm_Go E nc ns 0 [(0, .ref a0)] [] h := by
  refine zm_aload_n C rfl 0 rfl dX9_writeCode_0 ?_
  refine zm_getI C ff_X9_55 dX9_writeCode_1 w (fun v1 w => ?_)
  refine zm_istore_n (L' := [(0, .ref a0), (1, .int v1)]) C rfl (by decide) [1, 0] dX9_writeCode_4 rfl ?_
  refine zm_aload_n C rfl 0 rfl dX9_writeCode_5 ?_
  obtain ⟨wr, w⟩ := w
  refine zm_Vv (As := []) (rest := []) C M_X9_writeLongs sv_X9_99 rfl dX9_writeCode_6 rfl (Nat.le_of_ble_eq_true rfl) (by decide) (by decide) (by show nc + 0 ≤ 0; omega) (by show ns + 0 ≤ 0; omega) wr w (fun h1 w => ?_)
  refine zm_aload_n C rfl 0 rfl dX9_writeCode_9 ?_
  refine zm_getI C ff_X9_55 dX9_writeCode_10 w (fun v2 w => ?_)
  refine zm_iload_n C rfl 1 rfl dX9_writeCode_13 ?_
  refine zm_isub C dX9_writeCode_14 ?_
  refine zm_istore_n (L' := [(0, .ref a0), (1, .int v1), (2, .int (v2 - v1))]) C rfl (by decide) [1, 2, 0] dX9_writeCode_15 rfl ?_
  refine zm_aload_n C rfl 0 rfl dX9_writeCode_16 ?_
  refine zm_iload_n C rfl 1 rfl dX9_writeCode_17 ?_
  refine zm_put C ff_X9_55 ft_X9 fp_X9_9_15 rfl rfl dX9_writeCode_18 w (fun h2 w => ?_)
  refine zm_aload_n C rfl 0 rfl dX9_writeCode_21 ?_
  refine zm_iload_n C rfl 2 rfl dX9_writeCode_22 ?_
  refine zm_i2l C dX9_writeCode_23 ?_
  obtain ⟨wr, w⟩ := w
  refine zm_Vv (As := [.long ((v2 - v1).toInt64)]) (rest := []) C M_X9_putVarint sv_X9_76 rfl dX9_writeCode_24 rfl (Nat.le_of_ble_eq_true rfl) (by decide) (by decide) (by show nc + 0 ≤ 0; omega) (by show ns + 0 ≤ 0; omega) wr w (fun h3 w => ?_)
  refine zm_aload_n C rfl 0 rfl dX9_writeCode_27 ?_
  obtain ⟨wr, w⟩ := w
  refine zm_Vv (As := []) (rest := []) C M_X9_writeLongs sv_X9_99 rfl dX9_writeCode_28 rfl (Nat.le_of_ble_eq_true rfl) (by decide) (by decide) (by show nc + 0 ≤ 0; omega) (by show ns + 0 ≤ 0; omega) wr w (fun h4 w => ?_)
  exact zm_return C Rt (by show nc ≤ 0; omega) (by show ns ≤ 0; omega) dX9_writeCode_31 w
set_option maxRecDepth 20000 in
theorem B_X9_difference_0 {E : zm_E} {K : zm_K} {Post : zm_Po} {nc ns : Nat} (C : zm_Cx E K cX9_difference RX9 1 0 0 0 2) (Rt : zm_Rt E Post 0 0 (some .long)) {a0 : Nat} {i1 : Int32} {h : zm_H} (hnc : nc ≤ 0) (hns : ns ≤ 0) (w : zm_gR h a0 9 18 fun v1 => zm_lL K h v1 (i1 + (nI 1)) fun v2 => zm_gR h a0 9 18 fun v3 => zm_lL K h v3 i1 fun v4 => Post (some (.long (v2 - v4))) h) : zm_Go E nc ns 0 [(0, .ref a0), (1, .int i1)] [] h := by
  refine zm_aload_n C rfl 0 rfl dX9_difference_0 ?_
  refine zm_getR C ff_X9_38 dX9_difference_1 w (fun v1 w => ?_)
  refine zm_iload_n C rfl 1 rfl dX9_difference_4 ?_
  refine zm_iconst (v := nI 1) C (by decide) dX9_difference_5 ?_
  refine zm_iadd C dX9_difference_6 ?_
  refine zm_ldL C dX9_difference_7 w (fun v2 w => ?_)
  refine zm_aload_n C rfl 0 rfl dX9_difference_8 ?_
  refine zm_getR C ff_X9_38 dX9_difference_9 w (fun v3 w => ?_)
  refine zm_iload_n C rfl 1 rfl dX9_difference_12 ?_
  refine zm_ldL C dX9_difference_13 w (fun v4 w => ?_)
  refine zm_lsub C dX9_difference_14 ?_
  exact zm_lreturn C Rt (by show nc ≤ 0; omega) (by show ns ≤ 0; omega) dX9_difference_15 w
set_option maxRecDepth 20000 in
theorem B_X9_writeLongs_0 {E : zm_E} {K : zm_K} {Post : zm_Po} {nc ns : Nat} (C : zm_Cx E K cX9_writeLongs RX9 3 50 0 0 6) (Rt : zm_Rt E Post 0 0 none) {a0 : Nat} {h : zm_H} (hnc : nc ≤ 0) (hns : ns ≤ 0) (w : zm_gI h a0 9 19 fun v1 => zm_rc h a0 9 ∧ zm_cv K M_X9_putVarint [.ref a0, .long v1.toInt64] h fun h1 => zm_gI h1 a0 9 19 fun v2 => (v2 ≤ 0 → zm_Go E nc ns 31 [(0, .ref a0), (1, .int (nI 0))] [] h1) ∧ (¬ v2 ≤ 0 → zm_gR h1 a0 9 18 fun v3 => zm_lL K h1 v3 (nI 0) fun v4 => zm_cl K M_X9_zigzag [.long v4] h1 fun v5 h2 => zm_rc h2 a0 9 ∧ zm_cv K M_X9_putVarint [.ref a0, .long v5] h2 fun h3 => zm_Go E nc ns 31 [(0, .ref a0), (1, .int (nI 0))] [] h3)) : zm_Go E nc ns 0 [(0, .ref a0)] [] h := by
  refine zm_aload_n C rfl 0 rfl dX9_writeLongs_0 ?_
  refine zm_aload_n C rfl 0 rfl dX9_writeLongs_1 ?_
  refine zm_getI C ff_X9_102 dX9_writeLongs_2 w (fun v1 w => ?_)
  refine zm_i2l C dX9_writeLongs_5 ?_
  obtain ⟨wr, w⟩ := w
  refine zm_Vv (As := [.long v1.toInt64]) (rest := []) C M_X9_putVarint sv_X9_76 rfl dX9_writeLongs_6 rfl (Nat.le_of_ble_eq_true rfl) (by decide) (by decide) (by show nc + 0 ≤ 0; omega) (by show ns + 0 ≤ 0; omega) wr w (fun h1 w => ?_)
  refine zm_aload_n C rfl 0 rfl dX9_writeLongs_9 ?_
  refine zm_getI C ff_X9_102 dX9_writeLongs_10 w (fun v2 w => ?_)
  refine zm_if_le (tgt := 29) C dX9_writeLongs_13 (by decide) (fun z => ?_) (fun z => ?_)
  · replace w := w.1 z
    refine zm_iconst (v := nI 0) C (by decide) dX9_writeLongs_29 ?_
    refine zm_istore_n (L' := [(0, .ref a0), (1, .int (nI 0))]) C rfl (by decide) [1, 0] dX9_writeLongs_30 rfl ?_
    exact w
  · replace w := w.2 z
    refine zm_aload_n C rfl 0 rfl dX9_writeLongs_16 ?_
    refine zm_aload_n C rfl 0 rfl dX9_writeLongs_17 ?_
    refine zm_getR C ff_X9_38 dX9_writeLongs_18 w (fun v3 w => ?_)
    refine zm_iconst (v := nI 0) C (by decide) dX9_writeLongs_21 ?_
    refine zm_ldL C dX9_writeLongs_22 w (fun v4 w => ?_)
    refine zm_Sl (As := [.long v4]) (rest := [.ref a0]) C M_X9_zigzag ss_X9_105 rfl dX9_writeLongs_23 rfl (Nat.le_of_ble_eq_true rfl) (by decide) (by decide) (by show nc + 0 ≤ 0; omega) (by show ns + 0 ≤ 0; omega) w (fun v5 h2 w => ?_)
    obtain ⟨wr, w⟩ := w
    refine zm_Vv (As := [.long v5]) (rest := []) C M_X9_putVarint sv_X9_76 rfl dX9_writeLongs_26 rfl (Nat.le_of_ble_eq_true rfl) (by decide) (by decide) (by show nc + 0 ≤ 0; omega) (by show ns + 0 ≤ 0; omega) wr w (fun h3 w => ?_)
    refine zm_iconst (v := nI 0) C (by decide) dX9_writeLongs_29 ?_
    refine zm_istore_n (L' := [(0, .ref a0), (1, .int (nI 0))]) C rfl (by decide) [1, 0] dX9_writeLongs_30 rfl ?_
    exact w
set_option maxRecDepth 20000 in
theorem B_X9_writeLongs_31 {E : zm_E} {K : zm_K} {Post : zm_Po} {nc ns : Nat} (C : zm_Cx E K cX9_writeLongs RX9 3 50 0 0 6) (Rt : zm_Rt E Post 0 0 none) {a0 : Nat} {i1 : Int32} {h : zm_H} (hnc : nc ≤ 0) (hns : ns ≤ 0) (w : zm_gI h a0 9 19 fun v1 => ((v1 - (nI 1)) ≤ i1 → Post none h) ∧ (¬ (v1 - (nI 1)) ≤ i1 → zm_gI h a0 9 19 fun v2 => ((v2 - (nI 1)) ≤ (i1 + (nI 64)) → zm_gI h a0 9 19 fun v3 => zm_rc h a0 9 ∧ zm_cl K M_X9_difference [.ref a0, .int i1] h fun v4 h1 => zm_Go E nc ns 77 [(0, .ref a0), (1, .int i1), (2, .int (v3 - (nI 1))), (3, .long v4), (5, .int i1)] [] h1) ∧ (¬ (v2 - (nI 1)) ≤ (i1 + (nI 64)) → zm_rc h a0 9 ∧ zm_cl K M_X9_difference [.ref a0, .int i1] h fun v5 h2 => zm_Go E nc ns 77 [(0, .ref a0), (1, .int i1), (2, .int (i1 + (nI 64))), (3, .long v5), (5, .int i1)] [] h2))) : zm_Go E nc ns 31 [(0, .ref a0), (1, .int i1)] [] h := by
  refine zm_iload_n C rfl 1 rfl dX9_writeLongs_31 ?_
  refine zm_aload_n C rfl 0 rfl dX9_writeLongs_32 ?_
  refine zm_getI C ff_X9_102 dX9_writeLongs_33 w (fun v1 w => ?_)
  refine zm_iconst (v := nI 1) C (by decide) dX9_writeLongs_36 ?_
  refine zm_isub C dX9_writeLongs_37 ?_
  refine zm_icmp_ge (tgt := 186) C dX9_writeLongs_38 (by decide) (fun z => ?_) (fun z => ?_)
  · replace w := w.1 z
    exact zm_return C Rt (by show nc ≤ 0; omega) (by show ns ≤ 0; omega) dX9_writeLongs_186 w
  · replace w := w.2 z
    refine zm_iload_n C rfl 1 rfl dX9_writeLongs_41 ?_
    refine zm_bipush (v := nI 64) C (by decide) dX9_writeLongs_42 ?_
    refine zm_iadd C dX9_writeLongs_44 ?_
    refine zm_aload_n C rfl 0 rfl dX9_writeLongs_45 ?_
    refine zm_getI C ff_X9_102 dX9_writeLongs_46 w (fun v2 w => ?_)
    refine zm_iconst (v := nI 1) C (by decide) dX9_writeLongs_49 ?_
    refine zm_isub C dX9_writeLongs_50 ?_
    refine zm_icmp_ge (tgt := 61) C dX9_writeLongs_51 (by decide) (fun z => ?_) (fun z => ?_)
    · replace w := w.1 z
      refine zm_aload_n C rfl 0 rfl dX9_writeLongs_61 ?_
      refine zm_getI C ff_X9_102 dX9_writeLongs_62 w (fun v3 w => ?_)
      refine zm_iconst (v := nI 1) C (by decide) dX9_writeLongs_65 ?_
      refine zm_isub C dX9_writeLongs_66 ?_
      refine zm_istore_n (L' := [(0, .ref a0), (1, .int i1), (2, .int (v3 - (nI 1)))]) C rfl (by decide) [1, 2, 0] dX9_writeLongs_67 rfl ?_
      refine zm_aload_n C rfl 0 rfl dX9_writeLongs_68 ?_
      refine zm_iload_n C rfl 1 rfl dX9_writeLongs_69 ?_
      obtain ⟨wr, w⟩ := w
      refine zm_Vl (As := [.int i1]) (rest := []) C M_X9_difference sv_X9_109 rfl dX9_writeLongs_70 rfl (Nat.le_of_ble_eq_true rfl) (by decide) (by decide) (by show nc + 0 ≤ 0; omega) (by show ns + 0 ≤ 0; omega) wr w (fun v4 h1 w => ?_)
      refine zm_lstore_n (L' := [(0, .ref a0), (1, .int i1), (2, .int (v3 - (nI 1))), (3, .long v4)]) C rfl (by decide) [1, 2, 3, 0] dX9_writeLongs_73 rfl ?_
      refine zm_iload_n C rfl 1 rfl dX9_writeLongs_74 ?_
      refine zm_istore (L' := [(0, .ref a0), (1, .int i1), (2, .int (v3 - (nI 1))), (3, .long v4), (5, .int i1)]) C (by decide) [1, 2, 3, 4, 0] dX9_writeLongs_75 rfl ?_
      exact w
    · replace w := w.2 z
      refine zm_iload_n C rfl 1 rfl dX9_writeLongs_54 ?_
      refine zm_bipush (v := nI 64) C (by decide) dX9_writeLongs_55 ?_
      refine zm_iadd C dX9_writeLongs_57 ?_
      refine zm_goto (tgt := 67) C dX9_writeLongs_58 (by decide) ?_
      refine zm_istore_n (L' := [(0, .ref a0), (1, .int i1), (2, .int (i1 + (nI 64)))]) C rfl (by decide) [1, 2, 0] dX9_writeLongs_67 rfl ?_
      refine zm_aload_n C rfl 0 rfl dX9_writeLongs_68 ?_
      refine zm_iload_n C rfl 1 rfl dX9_writeLongs_69 ?_
      obtain ⟨wr, w⟩ := w
      refine zm_Vl (As := [.int i1]) (rest := []) C M_X9_difference sv_X9_109 rfl dX9_writeLongs_70 rfl (Nat.le_of_ble_eq_true rfl) (by decide) (by decide) (by show nc + 0 ≤ 0; omega) (by show ns + 0 ≤ 0; omega) wr w (fun v5 h2 w => ?_)
      refine zm_lstore_n (L' := [(0, .ref a0), (1, .int i1), (2, .int (i1 + (nI 64))), (3, .long v5)]) C rfl (by decide) [1, 2, 3, 0] dX9_writeLongs_73 rfl ?_
      refine zm_iload_n C rfl 1 rfl dX9_writeLongs_74 ?_
      refine zm_istore (L' := [(0, .ref a0), (1, .int i1), (2, .int (i1 + (nI 64))), (3, .long v5), (5, .int i1)]) C (by decide) [1, 2, 3, 4, 0] dX9_writeLongs_75 rfl ?_
      exact w
set_option maxRecDepth 20000 in
theorem B_X9_writeLongs_77 {E : zm_E} {K : zm_K} {Post : zm_Po} {nc ns : Nat} (C : zm_Cx E K cX9_writeLongs RX9 3 50 0 0 6) (Rt : zm_Rt E Post 0 0 none) {a0 : Nat} {i1 : Int32} {i2 : Int32} {l3 : Int64} {i5 : Int32} {h : zm_H} (hnc : nc ≤ 0) (hns : ns ≤ 0) (w : (i2 ≤ i5 → zm_cl K M_X9_zigzag [.long l3] h fun v1 h1 => zm_rc h1 a0 9 ∧ zm_cv K M_X9_putVarint [.ref a0, .long v1] h1 fun h2 => zm_Go E nc ns 122 [(0, .ref a0), (1, .int i1), (2, .int i2), (3, .long l3), (5, .int i1)] [] h2) ∧ (¬ i2 ≤ i5 → zm_rc h a0 9 ∧ zm_cl K M_X9_difference [.ref a0, .int i5] h fun v2 h3 => (0 ≤ (lg_cmp v2 l3) → zm_Go E nc ns 77 [(0, .ref a0), (1, .int i1), (2, .int i2), (3, .long l3), (5, .int (i5 + (nI 1)))] [] h3) ∧ (¬ 0 ≤ (lg_cmp v2 l3) → zm_rc h3 a0 9 ∧ zm_cl K M_X9_difference [.ref a0, .int i5] h3 fun v3 h4 => zm_Go E nc ns 77 [(0, .ref a0), (1, .int i1), (2, .int i2), (3, .long v3), (5, .int (i5 + (nI 1)))] [] h4))) : zm_Go E nc ns 77 [(0, .ref a0), (1, .int i1), (2, .int i2), (3, .long l3), (5, .int i5)] [] h := by
  refine zm_iload C 4 rfl dX9_writeLongs_77 ?_
  refine zm_iload_n C rfl 2 rfl dX9_writeLongs_79 ?_
  refine zm_icmp_ge (tgt := 111) C dX9_writeLongs_80 (by decide) (fun z => ?_) (fun z => ?_)
  · replace w := w.1 z
    refine zm_aload_n C rfl 0 rfl dX9_writeLongs_111 ?_
    refine zm_lload_n C rfl 3 rfl dX9_writeLongs_112 ?_
    refine zm_Sl (As := [.long l3]) (rest := [.ref a0]) C M_X9_zigzag ss_X9_105 rfl dX9_writeLongs_113 rfl (Nat.le_of_ble_eq_true rfl) (by decide) (by decide) (by show nc + 0 ≤ 0; omega) (by show ns + 0 ≤ 0; omega) w (fun v1 h1 w => ?_)
    obtain ⟨wr, w⟩ := w
    refine zm_Vv (As := [.long v1]) (rest := []) C M_X9_putVarint sv_X9_76 rfl dX9_writeLongs_116 rfl (Nat.le_of_ble_eq_true rfl) (by decide) (by decide) (by show nc + 0 ≤ 0; omega) (by show ns + 0 ≤ 0; omega) wr w (fun h2 w => ?_)
    refine zm_iload_n C rfl 1 rfl dX9_writeLongs_119 ?_
    refine zm_istore (L' := [(0, .ref a0), (1, .int i1), (2, .int i2), (3, .long l3), (5, .int i1)]) C (by decide) [1, 2, 3, 4, 0] dX9_writeLongs_120 rfl ?_
    exact w
  · replace w := w.2 z
    refine zm_aload_n C rfl 0 rfl dX9_writeLongs_83 ?_
    refine zm_iload C 4 rfl dX9_writeLongs_84 ?_
    obtain ⟨wr, w⟩ := w
    refine zm_Vl (As := [.int i5]) (rest := []) C M_X9_difference sv_X9_109 rfl dX9_writeLongs_86 rfl (Nat.le_of_ble_eq_true rfl) (by decide) (by decide) (by show nc + 0 ≤ 0; omega) (by show ns + 0 ≤ 0; omega) wr w (fun v2 h3 w => ?_)
    refine zm_lload_n C rfl 3 rfl dX9_writeLongs_89 ?_
    refine zm_lcmp C dX9_writeLongs_90 ?_
    refine zm_if_ge (tgt := 103) C dX9_writeLongs_91 (by decide) (fun z => ?_) (fun z => ?_)
    · replace w := w.1 z
      refine zm_lload_n C rfl 3 rfl dX9_writeLongs_103 ?_
      refine zm_lstore_n (L' := [(0, .ref a0), (1, .int i1), (2, .int i2), (3, .long l3), (5, .int i5)]) C rfl (by decide) [1, 2, 3, 0, 4] dX9_writeLongs_104 rfl ?_
      refine zm_iinc (L' := [(0, .ref a0), (1, .int i1), (2, .int i2), (3, .long l3), (5, .int (i5 + (nI 1)))]) C (by decide) 4 [1, 2, 3, 4, 0] dX9_writeLongs_105 rfl rfl rfl ?_
      refine zm_goto (tgt := 77) C dX9_writeLongs_108 (by decide) ?_
      exact w
    · replace w := w.2 z
      refine zm_aload_n C rfl 0 rfl dX9_writeLongs_94 ?_
      refine zm_iload C 4 rfl dX9_writeLongs_95 ?_
      obtain ⟨wr, w⟩ := w
      refine zm_Vl (As := [.int i5]) (rest := []) C M_X9_difference sv_X9_109 rfl dX9_writeLongs_97 rfl (Nat.le_of_ble_eq_true rfl) (by decide) (by decide) (by show nc + 0 ≤ 0; omega) (by show ns + 0 ≤ 0; omega) wr w (fun v3 h4 w => ?_)
      refine zm_goto (tgt := 104) C dX9_writeLongs_100 (by decide) ?_
      refine zm_lstore_n (L' := [(0, .ref a0), (1, .int i1), (2, .int i2), (3, .long v3), (5, .int i5)]) C rfl (by decide) [1, 2, 3, 0, 4] dX9_writeLongs_104 rfl ?_
      refine zm_iinc (L' := [(0, .ref a0), (1, .int i1), (2, .int i2), (3, .long v3), (5, .int (i5 + (nI 1)))]) C (by decide) 4 [1, 2, 3, 4, 0] dX9_writeLongs_105 rfl rfl rfl ?_
      refine zm_goto (tgt := 77) C dX9_writeLongs_108 (by decide) ?_
      exact w
set_option maxRecDepth 20000 in
theorem B_X9_writeLongs_122 {E : zm_E} {K : zm_K} {Post : zm_Po} {nc ns : Nat} (C : zm_Cx E K cX9_writeLongs RX9 3 50 0 0 6) (Rt : zm_Rt E Post 0 0 none) {a0 : Nat} {i1 : Int32} {i2 : Int32} {l3 : Int64} {i5 : Int32} {h : zm_H} (hnc : nc ≤ 0) (hns : ns ≤ 0) (w : ((i1 + (nI 64)) ≤ i5 → zm_Go E nc ns 152 [(0, .ref a0), (1, .int i1), (2, .int i2), (3, .long l3), (5, .int i1)] [] h) ∧ (¬ (i1 + (nI 64)) ≤ i5 → zm_rc h a0 9 ∧ zm_ci K M_X9_widthOf [.ref a0, .int i5, .int i2, .long l3] h fun v1 h1 => zm_rc h1 a0 9 ∧ zm_cv K M_X9_put [.ref a0, .int v1] h1 fun h2 => zm_Go E nc ns 122 [(0, .ref a0), (1, .int i1), (2, .int i2), (3, .long l3), (5, .int (i5 + (nI 16)))] [] h2)) : zm_Go E nc ns 122 [(0, .ref a0), (1, .int i1), (2, .int i2), (3, .long l3), (5, .int i5)] [] h := by
  refine zm_iload C 4 rfl dX9_writeLongs_122 ?_
  refine zm_iload_n C rfl 1 rfl dX9_writeLongs_124 ?_
  refine zm_bipush (v := nI 64) C (by decide) dX9_writeLongs_125 ?_
  refine zm_iadd C dX9_writeLongs_127 ?_
  refine zm_icmp_ge (tgt := 149) C dX9_writeLongs_128 (by decide) (fun z => ?_) (fun z => ?_)
  · replace w := w.1 z
    refine zm_iload_n C rfl 1 rfl dX9_writeLongs_149 ?_
    refine zm_istore (L' := [(0, .ref a0), (1, .int i1), (2, .int i2), (3, .long l3), (5, .int i1)]) C (by decide) [1, 2, 3, 4, 0] dX9_writeLongs_150 rfl ?_
    exact w
  · replace w := w.2 z
    refine zm_aload_n C rfl 0 rfl dX9_writeLongs_131 ?_
    refine zm_aload_n C rfl 0 rfl dX9_writeLongs_132 ?_
    refine zm_iload C 4 rfl dX9_writeLongs_133 ?_
    refine zm_iload_n C rfl 2 rfl dX9_writeLongs_135 ?_
    refine zm_lload_n C rfl 3 rfl dX9_writeLongs_136 ?_
    obtain ⟨wr, w⟩ := w
    refine zm_Vi (As := [.int i5, .int i2, .long l3]) (rest := [.ref a0]) C M_X9_widthOf sv_X9_112 rfl dX9_writeLongs_137 rfl (Nat.le_of_ble_eq_true rfl) (by decide) (by decide) (by show nc + 0 ≤ 0; omega) (by show ns + 0 ≤ 0; omega) wr w (fun v1 h1 w => ?_)
    obtain ⟨wr, w⟩ := w
    refine zm_Vv (As := [.int v1]) (rest := []) C M_X9_put sv_X9_66 rfl dX9_writeLongs_140 rfl (Nat.le_of_ble_eq_true rfl) (by decide) (by decide) (by show nc + 0 ≤ 0; omega) (by show ns + 0 ≤ 0; omega) wr w (fun h2 w => ?_)
    refine zm_iinc (L' := [(0, .ref a0), (1, .int i1), (2, .int i2), (3, .long l3), (5, .int (i5 + (nI 16)))]) C (by decide) 4 [1, 2, 3, 4, 0] dX9_writeLongs_143 rfl rfl rfl ?_
    refine zm_goto (tgt := 122) C dX9_writeLongs_146 (by decide) ?_
    exact w
set_option maxRecDepth 20000 in
theorem B_X9_writeLongs_152 {E : zm_E} {K : zm_K} {Post : zm_Po} {nc ns : Nat} (C : zm_Cx E K cX9_writeLongs RX9 3 50 0 0 6) (Rt : zm_Rt E Post 0 0 none) {a0 : Nat} {i1 : Int32} {i2 : Int32} {l3 : Int64} {i5 : Int32} {h : zm_H} (hnc : nc ≤ 0) (hns : ns ≤ 0) (w : (i2 ≤ i5 → zm_Go E nc ns 31 [(0, .ref a0), (1, .int (i1 + (nI 64)))] [] h) ∧ (¬ i2 ≤ i5 → zm_rc h a0 9 ∧ zm_ci K M_X9_widthOf [.ref a0, .int i5, .int i2, .long l3] h fun v1 h1 => zm_rc h1 a0 9 ∧ zm_cv K M_X9_writePart [.ref a0, .int i5, .int i2, .long l3, .int v1] h1 fun h2 => zm_Go E nc ns 152 [(0, .ref a0), (1, .int i1), (2, .int i2), (3, .long l3), (5, .int (i5 + (nI 16)))] [] h2)) : zm_Go E nc ns 152 [(0, .ref a0), (1, .int i1), (2, .int i2), (3, .long l3), (5, .int i5)] [] h := by
  refine zm_iload C 4 rfl dX9_writeLongs_152 ?_
  refine zm_iload_n C rfl 2 rfl dX9_writeLongs_154 ?_
  refine zm_icmp_ge (tgt := 180) C dX9_writeLongs_155 (by decide) (fun z => ?_) (fun z => ?_)
  · replace w := w.1 z
    refine zm_iinc (L' := [(0, .ref a0), (1, .int (i1 + (nI 64))), (2, .int i2), (3, .long l3), (5, .int i5)]) C (by decide) 1 [1, 0, 2, 3, 4] dX9_writeLongs_180 rfl rfl rfl ?_
    refine zm_goto (tgt := 31) C dX9_writeLongs_183 (by decide) ?_
    exact zm_loc [0, 1] rfl w
  · replace w := w.2 z
    refine zm_aload_n C rfl 0 rfl dX9_writeLongs_158 ?_
    refine zm_iload C 4 rfl dX9_writeLongs_159 ?_
    refine zm_iload_n C rfl 2 rfl dX9_writeLongs_161 ?_
    refine zm_lload_n C rfl 3 rfl dX9_writeLongs_162 ?_
    refine zm_aload_n C rfl 0 rfl dX9_writeLongs_163 ?_
    refine zm_iload C 4 rfl dX9_writeLongs_164 ?_
    refine zm_iload_n C rfl 2 rfl dX9_writeLongs_166 ?_
    refine zm_lload_n C rfl 3 rfl dX9_writeLongs_167 ?_
    obtain ⟨wr, w⟩ := w
    refine zm_Vi (As := [.int i5, .int i2, .long l3]) (rest := [.long l3, .int i2, .int i5, .ref a0]) C M_X9_widthOf sv_X9_112 rfl dX9_writeLongs_168 rfl (Nat.le_of_ble_eq_true rfl) (by decide) (by decide) (by show nc + 0 ≤ 0; omega) (by show ns + 0 ≤ 0; omega) wr w (fun v1 h1 w => ?_)
    obtain ⟨wr, w⟩ := w
    refine zm_Vv (As := [.int i5, .int i2, .long l3, .int v1]) (rest := []) C M_X9_writePart sv_X9_116 rfl dX9_writeLongs_171 rfl (Nat.le_of_ble_eq_true rfl) (by decide) (by decide) (by show nc + 0 ≤ 0; omega) (by show ns + 0 ≤ 0; omega) wr w (fun h2 w => ?_)
    refine zm_iinc (L' := [(0, .ref a0), (1, .int i1), (2, .int i2), (3, .long l3), (5, .int (i5 + (nI 16)))]) C (by decide) 4 [1, 2, 3, 4, 0] dX9_writeLongs_174 rfl rfl rfl ?_
    refine zm_goto (tgt := 152) C dX9_writeLongs_177 (by decide) ?_
    exact w
set_option maxRecDepth 20000 in
theorem B_X9_widthOf_0 {E : zm_E} {K : zm_K} {Post : zm_Po} {nc ns : Nat} (C : zm_Cx E K cX9_widthOf RX9 2 21 0 0 7) (Rt : zm_Rt E Post 0 0 (some .int)) {a0 : Nat} {i1 : Int32} {i2 : Int32} {l3 : Int64} {h : zm_H} (w : zm_Go E nc ns 6 [(0, .ref a0), (1, .int i1), (2, .int i2), (3, .long l3), (5, .int (nI 0)), (6, .int i1)] [] h) : zm_Go E nc ns 0 [(0, .ref a0), (1, .int i1), (2, .int i2), (3, .long l3)] [] h := by
  refine zm_iconst (v := nI 0) C (by decide) dX9_widthOf_0 ?_
  refine zm_istore (L' := [(0, .ref a0), (1, .int i1), (2, .int i2), (3, .long l3), (5, .int (nI 0))]) C (by decide) [1, 2, 3, 4, 0] dX9_widthOf_1 rfl ?_
  refine zm_iload_n C rfl 1 rfl dX9_widthOf_3 ?_
  refine zm_istore (L' := [(0, .ref a0), (1, .int i1), (2, .int i2), (3, .long l3), (5, .int (nI 0)), (6, .int i1)]) C (by decide) [1, 2, 3, 4, 5, 0] dX9_widthOf_4 rfl ?_
  exact w
set_option maxRecDepth 20000 in
theorem B_X9_widthOf_6 {E : zm_E} {K : zm_K} {Post : zm_Po} {nc ns : Nat} (C : zm_Cx E K cX9_widthOf RX9 2 21 0 0 7) (Rt : zm_Rt E Post 0 0 (some .int)) {a0 : Nat} {i1 : Int32} {i2 : Int32} {l3 : Int64} {i5 : Int32} {i6 : Int32} {h : zm_H} (hnc : nc ≤ 0) (hns : ns ≤ 0) (w : ((i1 + (nI 16)) ≤ i6 → Post (some (.int i5)) h) ∧ (¬ (i1 + (nI 16)) ≤ i6 → (i2 ≤ i6 → Post (some (.int i5)) h) ∧ (¬ i2 ≤ i6 → zm_Go E nc ns 21 [(0, .ref a0), (1, .int i1), (2, .int i2), (3, .long l3), (5, .int i5), (6, .int i6)] [] h))) : zm_Go E nc ns 6 [(0, .ref a0), (1, .int i1), (2, .int i2), (3, .long l3), (5, .int i5), (6, .int i6)] [] h := by
  refine zm_iload C 5 rfl dX9_widthOf_6 ?_
  refine zm_iload_n C rfl 1 rfl dX9_widthOf_8 ?_
  refine zm_bipush (v := nI 16) C (by decide) dX9_widthOf_9 ?_
  refine zm_iadd C dX9_widthOf_11 ?_
  refine zm_icmp_ge (tgt := 56) C dX9_widthOf_12 (by decide) (fun z => ?_) (fun z => ?_)
  · replace w := w.1 z
    refine zm_iload C 4 rfl dX9_widthOf_56 ?_
    exact zm_ireturn C Rt (by show nc ≤ 0; omega) (by show ns ≤ 0; omega) rfl dX9_widthOf_58 w
  · replace w := w.2 z
    refine zm_iload C 5 rfl dX9_widthOf_15 ?_
    refine zm_iload_n C rfl 2 rfl dX9_widthOf_17 ?_
    refine zm_icmp_ge (tgt := 56) C dX9_widthOf_18 (by decide) (fun z => ?_) (fun z => ?_)
    · replace w := w.1 z
      refine zm_iload C 4 rfl dX9_widthOf_56 ?_
      exact zm_ireturn C Rt (by show nc ≤ 0; omega) (by show ns ≤ 0; omega) rfl dX9_widthOf_58 w
    · replace w := w.2 z
      exact w
set_option maxRecDepth 20000 in
theorem B_X9_widthOf_21 {E : zm_E} {K : zm_K} {Post : zm_Po} {nc ns : Nat} (C : zm_Cx E K cX9_widthOf RX9 2 21 0 0 7) (Rt : zm_Rt E Post 0 0 (some .int)) {a0 : Nat} {i1 : Int32} {i2 : Int32} {l3 : Int64} {i5 : Int32} {i6 : Int32} {h : zm_H} (hnc : nc ≤ 0) (hns : ns ≤ 0) (w : ((nI 64) ≤ i5 → zm_Go E nc ns 6 [(0, .ref a0), (1, .int i1), (2, .int i2), (3, .long l3), (5, .int i5), (6, .int (i6 + (nI 1)))] [] h) ∧ (¬ (nI 64) ≤ i5 → zm_rc h a0 9 ∧ zm_cl K M_X9_difference [.ref a0, .int i6] h fun v1 h1 => ((lg_cmp (((v1 - l3).toUInt64 >>> (i5.toInt64.toUInt64 &&& Int64.toUInt64 63)).toInt64) (lN 0)) = 0 → zm_Go E nc ns 6 [(0, .ref a0), (1, .int i1), (2, .int i2), (3, .long l3), (5, .int i5), (6, .int (i6 + (nI 1)))] [] h1) ∧ (¬ (lg_cmp (((v1 - l3).toUInt64 >>> (i5.toInt64.toUInt64 &&& Int64.toUInt64 63)).toInt64) (lN 0)) = 0 → zm_Go E nc ns 21 [(0, .ref a0), (1, .int i1), (2, .int i2), (3, .long l3), (5, .int (i5 + (nI 1))), (6, .int i6)] [] h1))) : zm_Go E nc ns 21 [(0, .ref a0), (1, .int i1), (2, .int i2), (3, .long l3), (5, .int i5), (6, .int i6)] [] h := by
  refine zm_iload C 4 rfl dX9_widthOf_21 ?_
  refine zm_bipush (v := nI 64) C (by decide) dX9_widthOf_23 ?_
  refine zm_icmp_ge (tgt := 50) C dX9_widthOf_25 (by decide) (fun z => ?_) (fun z => ?_)
  · replace w := w.1 z
    refine zm_iinc (L' := [(0, .ref a0), (1, .int i1), (2, .int i2), (3, .long l3), (5, .int i5), (6, .int (i6 + (nI 1)))]) C (by decide) 5 [1, 2, 3, 4, 5, 0] dX9_widthOf_50 rfl rfl rfl ?_
    refine zm_goto (tgt := 6) C dX9_widthOf_53 (by decide) ?_
    exact w
  · replace w := w.2 z
    refine zm_aload_n C rfl 0 rfl dX9_widthOf_28 ?_
    refine zm_iload C 5 rfl dX9_widthOf_29 ?_
    obtain ⟨wr, w⟩ := w
    refine zm_Vl (As := [.int i6]) (rest := []) C M_X9_difference sv_X9_109 rfl dX9_widthOf_31 rfl (Nat.le_of_ble_eq_true rfl) (by decide) (by decide) (by show nc + 0 ≤ 0; omega) (by show ns + 0 ≤ 0; omega) wr w (fun v1 h1 w => ?_)
    refine zm_lload_n C rfl 3 rfl dX9_widthOf_34 ?_
    refine zm_lsub C dX9_widthOf_35 ?_
    refine zm_iload C 4 rfl dX9_widthOf_36 ?_
    refine zm_lushr C dX9_widthOf_38 ?_
    refine zm_lconst (v := lN 0) C (by decide) dX9_widthOf_39 ?_
    refine zm_lcmp C dX9_widthOf_40 ?_
    refine zm_if_eq (tgt := 50) C dX9_widthOf_41 (by decide) (fun z => ?_) (fun z => ?_)
    · replace w := w.1 z
      refine zm_iinc (L' := [(0, .ref a0), (1, .int i1), (2, .int i2), (3, .long l3), (5, .int i5), (6, .int (i6 + (nI 1)))]) C (by decide) 5 [1, 2, 3, 4, 5, 0] dX9_widthOf_50 rfl rfl rfl ?_
      refine zm_goto (tgt := 6) C dX9_widthOf_53 (by decide) ?_
      exact w
    · replace w := w.2 z
      refine zm_iinc (L' := [(0, .ref a0), (1, .int i1), (2, .int i2), (3, .long l3), (5, .int (i5 + (nI 1))), (6, .int i6)]) C (by decide) 4 [1, 2, 3, 4, 0, 5] dX9_widthOf_44 rfl rfl rfl ?_
      refine zm_goto (tgt := 21) C dX9_widthOf_47 (by decide) ?_
      exact w
set_option maxRecDepth 20000 in
theorem B_X9_writePart_0 {E : zm_E} {K : zm_K} {Post : zm_Po} {nc ns : Nat} (C : zm_Cx E K cX9_writePart RX9 2 21 0 0 10) (Rt : zm_Rt E Post 0 0 none) {a0 : Nat} {i1 : Int32} {i2 : Int32} {l3 : Int64} {i5 : Int32} {h : zm_H} (w : zm_Go E nc ns 3 [(0, .ref a0), (1, .int i1), (2, .int i2), (3, .long l3), (5, .int i5), (6, .int (nI 0))] [] h) : zm_Go E nc ns 0 [(0, .ref a0), (1, .int i1), (2, .int i2), (3, .long l3), (5, .int i5)] [] h := by
  refine zm_iconst (v := nI 0) C (by decide) dX9_writePart_0 ?_
  refine zm_istore (L' := [(0, .ref a0), (1, .int i1), (2, .int i2), (3, .long l3), (5, .int i5), (6, .int (nI 0))]) C (by decide) [1, 2, 3, 4, 5, 0] dX9_writePart_1 rfl ?_
  exact w
set_option maxRecDepth 20000 in
theorem B_X9_writePart_3 {E : zm_E} {K : zm_K} {Post : zm_Po} {nc ns : Nat} (C : zm_Cx E K cX9_writePart RX9 2 21 0 0 10) (Rt : zm_Rt E Post 0 0 none) {a0 : Nat} {i1 : Int32} {i2 : Int32} {l3 : Int64} {i5 : Int32} {i6 : Int32} {h : zm_H} (hnc : nc ≤ 0) (hns : ns ≤ 0) (w : (((nI 16) * i5) ≤ i6 → Post none h) ∧ (¬ ((nI 16) * i5) ≤ i6 → zm_Go E nc ns 19 [(0, .ref a0), (1, .int i1), (2, .int i2), (3, .long l3), (5, .int i5), (6, .int i6), (7, .int (nI 0)), (8, .int (nI 0))] [] h)) : zm_Go E nc ns 3 [(0, .ref a0), (1, .int i1), (2, .int i2), (3, .long l3), (5, .int i5), (6, .int i6)] [] h := by
  refine zm_iload C 5 rfl dX9_writePart_3 ?_
  refine zm_bipush (v := nI 16) C (by decide) dX9_writePart_5 ?_
  refine zm_iload C 4 rfl dX9_writePart_7 ?_
  refine zm_imul C dX9_writePart_9 ?_
  refine zm_icmp_ge (tgt := 90) C dX9_writePart_10 (by decide) (fun z => ?_) (fun z => ?_)
  · replace w := w.1 z
    exact zm_return C Rt (by show nc ≤ 0; omega) (by show ns ≤ 0; omega) dX9_writePart_90 w
  · replace w := w.2 z
    refine zm_iconst (v := nI 0) C (by decide) dX9_writePart_13 ?_
    refine zm_istore (L' := [(0, .ref a0), (1, .int i1), (2, .int i2), (3, .long l3), (5, .int i5), (6, .int i6), (7, .int (nI 0))]) C (by decide) [1, 2, 3, 4, 5, 6, 0] dX9_writePart_14 rfl ?_
    refine zm_iconst (v := nI 0) C (by decide) dX9_writePart_16 ?_
    refine zm_istore (L' := [(0, .ref a0), (1, .int i1), (2, .int i2), (3, .long l3), (5, .int i5), (6, .int i6), (7, .int (nI 0)), (8, .int (nI 0))]) C (by decide) [1, 2, 3, 4, 5, 6, 7, 0] dX9_writePart_17 rfl ?_
    exact w
set_option maxRecDepth 20000 in
theorem B_X9_writePart_19 {E : zm_E} {K : zm_K} {Post : zm_Po} {nc ns : Nat} (C : zm_Cx E K cX9_writePart RX9 2 21 0 0 10) (Rt : zm_Rt E Post 0 0 none) {a0 : Nat} {i1 : Int32} {i2 : Int32} {l3 : Int64} {i5 : Int32} {i6 : Int32} {i7 : Int32} {i8 : Int32} {h : zm_H} (hnc : nc ≤ 0) (hns : ns ≤ 0) (w : ((nI 8) ≤ i8 → zm_rc h a0 9 ∧ zm_cv K M_X9_put [.ref a0, .int i7] h fun h1 => zm_Go E nc ns 3 [(0, .ref a0), (1, .int i1), (2, .int i2), (3, .long l3), (5, .int i5), (6, .int (i6 + (nI 8)))] [] h1) ∧ (¬ (nI 8) ≤ i8 → ¬ i5 = 0 ∧ (i2 ≤ (i1 + ((i6 + i8) / i5)) → zm_Go E nc ns 19 [(0, .ref a0), (1, .int i1), (2, .int i2), (3, .long l3), (5, .int i5), (6, .int i6), (7, .int i7), (8, .int (i8 + (nI 1)))] [] h) ∧ (¬ i2 ≤ (i1 + ((i6 + i8) / i5)) → zm_rc h a0 9 ∧ zm_cl K M_X9_difference [.ref a0, .int (i1 + ((i6 + i8) / i5))] h fun v1 h2 => ¬ i5 = 0 ∧ zm_Go E nc ns 19 [(0, .ref a0), (1, .int i1), (2, .int i2), (3, .long l3), (5, .int i5), (6, .int i6), (7, .int (i7 ||| ((((((v1 - l3).toUInt64 >>> (((i6 + i8) - (i6 + i8) / i5 * i5).toInt64.toUInt64 &&& Int64.toUInt64 63)).toInt64) &&& (lN 1)).toInt32) <<< (i8 &&& 31)))), (8, .int (i8 + (nI 1)))] [] h2))) : zm_Go E nc ns 19 [(0, .ref a0), (1, .int i1), (2, .int i2), (3, .long l3), (5, .int i5), (6, .int i6), (7, .int i7), (8, .int i8)] [] h := by
  refine zm_iload C 7 rfl dX9_writePart_19 ?_
  refine zm_bipush (v := nI 8) C (by decide) dX9_writePart_21 ?_
  refine zm_icmp_ge (tgt := 78) C dX9_writePart_23 (by decide) (fun z => ?_) (fun z => ?_)
  · replace w := w.1 z
    refine zm_aload_n C rfl 0 rfl dX9_writePart_78 ?_
    refine zm_iload C 6 rfl dX9_writePart_79 ?_
    obtain ⟨wr, w⟩ := w
    refine zm_Vv (As := [.int i7]) (rest := []) C M_X9_put sv_X9_66 rfl dX9_writePart_81 rfl (Nat.le_of_ble_eq_true rfl) (by decide) (by decide) (by show nc + 0 ≤ 0; omega) (by show ns + 0 ≤ 0; omega) wr w (fun h1 w => ?_)
    refine zm_iinc (L' := [(0, .ref a0), (1, .int i1), (2, .int i2), (3, .long l3), (5, .int i5), (6, .int (i6 + (nI 8))), (7, .int i7), (8, .int i8)]) C (by decide) 5 [1, 2, 3, 4, 5, 0, 6, 7] dX9_writePart_84 rfl rfl rfl ?_
    refine zm_goto (tgt := 3) C dX9_writePart_87 (by decide) ?_
    exact zm_loc [0, 1, 2, 3, 4, 5] rfl w
  · replace w := w.2 z
    refine zm_iload_n C rfl 1 rfl dX9_writePart_26 ?_
    refine zm_iload C 5 rfl dX9_writePart_27 ?_
    refine zm_iload C 7 rfl dX9_writePart_29 ?_
    refine zm_iadd C dX9_writePart_31 ?_
    refine zm_iload C 4 rfl dX9_writePart_32 ?_
    refine zm_idiv C w.1 dX9_writePart_34 ?_
    replace w := w.2
    refine zm_iadd C dX9_writePart_35 ?_
    refine zm_istore (L' := [(0, .ref a0), (1, .int i1), (2, .int i2), (3, .long l3), (5, .int i5), (6, .int i6), (7, .int i7), (8, .int i8), (9, .int (i1 + ((i6 + i8) / i5)))]) C (by decide) [1, 2, 3, 4, 5, 6, 7, 8, 0] dX9_writePart_36 rfl ?_
    refine zm_iload C 8 rfl dX9_writePart_38 ?_
    refine zm_iload_n C rfl 2 rfl dX9_writePart_40 ?_
    refine zm_icmp_ge (tgt := 72) C dX9_writePart_41 (by decide) (fun z => ?_) (fun z => ?_)
    · replace w := w.1 z
      refine zm_iinc (L' := [(0, .ref a0), (1, .int i1), (2, .int i2), (3, .long l3), (5, .int i5), (6, .int i6), (7, .int i7), (8, .int (i8 + (nI 1))), (9, .int (i1 + ((i6 + i8) / i5)))]) C (by decide) 7 [1, 2, 3, 4, 5, 6, 7, 0, 8] dX9_writePart_72 rfl rfl rfl ?_
      refine zm_goto (tgt := 19) C dX9_writePart_75 (by decide) ?_
      exact zm_loc [0, 1, 2, 3, 4, 5, 6, 7] rfl w
    · replace w := w.2 z
      refine zm_iload C 6 rfl dX9_writePart_44 ?_
      refine zm_aload_n C rfl 0 rfl dX9_writePart_46 ?_
      refine zm_iload C 8 rfl dX9_writePart_47 ?_
      obtain ⟨wr, w⟩ := w
      refine zm_Vl (As := [.int (i1 + ((i6 + i8) / i5))]) (rest := [.int i7]) C M_X9_difference sv_X9_109 rfl dX9_writePart_49 rfl (Nat.le_of_ble_eq_true rfl) (by decide) (by decide) (by show nc + 0 ≤ 0; omega) (by show ns + 0 ≤ 0; omega) wr w (fun v1 h2 w => ?_)
      refine zm_lload_n C rfl 3 rfl dX9_writePart_52 ?_
      refine zm_lsub C dX9_writePart_53 ?_
      refine zm_iload C 5 rfl dX9_writePart_54 ?_
      refine zm_iload C 7 rfl dX9_writePart_56 ?_
      refine zm_iadd C dX9_writePart_58 ?_
      refine zm_iload C 4 rfl dX9_writePart_59 ?_
      refine zm_irem C w.1 dX9_writePart_61 ?_
      replace w := w.2
      refine zm_lushr C dX9_writePart_62 ?_
      refine zm_lconst (v := lN 1) C (by decide) dX9_writePart_63 ?_
      refine zm_land C dX9_writePart_64 ?_
      refine zm_l2i C dX9_writePart_65 ?_
      refine zm_iload C 7 rfl dX9_writePart_66 ?_
      refine zm_ishl C dX9_writePart_68 ?_
      refine zm_ior C dX9_writePart_69 ?_
      refine zm_istore (L' := [(0, .ref a0), (1, .int i1), (2, .int i2), (3, .long l3), (5, .int i5), (6, .int i6), (7, .int (i7 ||| ((((((v1 - l3).toUInt64 >>> (((i6 + i8) - (i6 + i8) / i5 * i5).toInt64.toUInt64 &&& Int64.toUInt64 63)).toInt64) &&& (lN 1)).toInt32) <<< (i8 &&& 31)))), (8, .int i8), (9, .int (i1 + ((i6 + i8) / i5)))]) C (by decide) [1, 2, 3, 4, 5, 6, 0, 7, 8] dX9_writePart_70 rfl ?_
      refine zm_iinc (L' := [(0, .ref a0), (1, .int i1), (2, .int i2), (3, .long l3), (5, .int i5), (6, .int i6), (7, .int (i7 ||| ((((((v1 - l3).toUInt64 >>> (((i6 + i8) - (i6 + i8) / i5 * i5).toInt64.toUInt64 &&& Int64.toUInt64 63)).toInt64) &&& (lN 1)).toInt32) <<< (i8 &&& 31)))), (8, .int (i8 + (nI 1))), (9, .int (i1 + ((i6 + i8) / i5)))]) C (by decide) 7 [1, 2, 3, 4, 5, 6, 7, 0, 8] dX9_writePart_72 rfl rfl rfl ?_
      refine zm_goto (tgt := 19) C dX9_writePart_75 (by decide) ?_
      exact zm_loc [0, 1, 2, 3, 4, 5, 6, 7] rfl w
set_option maxRecDepth 20000 in
theorem B_X9_readCode_0 {E : zm_E} {K : zm_K} {Post : zm_Po} {nc ns : Nat} (C : zm_Cx E K cX9_readCode RX9 3 57 0 0 8) (Rt : zm_Rt E Post 0 0 none) {a0 : Nat} {i1 : Int32} {h : zm_H} (hnc : nc ≤ 0) (hns : ns ≤ 0) (w : zm_gI h a0 9 14 fun v1 => zm_rc h a0 9 ∧ zm_cl K M_X9_varint [.ref a0, .int v1] h fun v2 h1 => zm_gI h1 a0 9 17 fun v3 => (¬ v3 = 0 → zm_Go E nc ns 42 [(0, .ref a0), (1, .int i1), (2, .long v2)] [] h1) ∧ (v3 = 0 → ((lg_cmp v2 (lN 0)) < 0 → zm_pf h1 a0 9 17 (.int (nI 1)) fun h2 => zm_Go E nc ns 42 [(0, .ref a0), (1, .int i1), (2, .long v2)] [] h2) ∧ (¬ (lg_cmp v2 (lN 0)) < 0 → zm_gI h1 a0 9 14 fun v4 => zm_gI h1 a0 9 16 fun v5 => ((lg_cmp v2 ((v4 - v5).toInt64)) ≤ 0 → zm_Go E nc ns 42 [(0, .ref a0), (1, .int i1), (2, .long v2)] [] h1) ∧ (¬ (lg_cmp v2 ((v4 - v5).toInt64)) ≤ 0 → zm_pf h1 a0 9 17 (.int (nI 1)) fun h3 => zm_Go E nc ns 42 [(0, .ref a0), (1, .int i1), (2, .long v2)] [] h3)))) : zm_Go E nc ns 0 [(0, .ref a0), (1, .int i1)] [] h := by
  refine zm_aload_n C rfl 0 rfl dX9_readCode_0 ?_
  refine zm_aload_n C rfl 0 rfl dX9_readCode_1 ?_
  refine zm_getI C ff_X9_120 dX9_readCode_2 w (fun v1 w => ?_)
  obtain ⟨wr, w⟩ := w
  refine zm_Vl (As := [.int v1]) (rest := []) C M_X9_varint sv_X9_80 rfl dX9_readCode_5 rfl (Nat.le_of_ble_eq_true rfl) (by decide) (by decide) (by show nc + 0 ≤ 0; omega) (by show ns + 0 ≤ 0; omega) wr w (fun v2 h1 w => ?_)
  refine zm_lstore_n (L' := [(0, .ref a0), (1, .int i1), (2, .long v2)]) C rfl (by decide) [1, 2, 0] dX9_readCode_8 rfl ?_
  refine zm_aload_n C rfl 0 rfl dX9_readCode_9 ?_
  refine zm_getI C ff_X9_58 dX9_readCode_10 w (fun v3 w => ?_)
  refine zm_if_ne (tgt := 42) C dX9_readCode_13 (by decide) (fun z => ?_) (fun z => ?_)
  · replace w := w.1 z
    exact w
  · replace w := w.2 z
    refine zm_lload_n C rfl 2 rfl dX9_readCode_16 ?_
    refine zm_lconst (v := lN 0) C (by decide) dX9_readCode_17 ?_
    refine zm_lcmp C dX9_readCode_18 ?_
    refine zm_if_lt (tgt := 37) C dX9_readCode_19 (by decide) (fun z => ?_) (fun z => ?_)
    · replace w := w.1 z
      refine zm_aload_n C rfl 0 rfl dX9_readCode_37 ?_
      refine zm_iconst (v := nI 1) C (by decide) dX9_readCode_38 ?_
      refine zm_put C ff_X9_58 ft_X9 fp_X9_9_17 rfl rfl dX9_readCode_39 w (fun h2 w => ?_)
      exact w
    · replace w := w.2 z
      refine zm_lload_n C rfl 2 rfl dX9_readCode_22 ?_
      refine zm_aload_n C rfl 0 rfl dX9_readCode_23 ?_
      refine zm_getI C ff_X9_120 dX9_readCode_24 w (fun v4 w => ?_)
      refine zm_aload_n C rfl 0 rfl dX9_readCode_27 ?_
      refine zm_getI C ff_X9_61 dX9_readCode_28 w (fun v5 w => ?_)
      refine zm_isub C dX9_readCode_31 ?_
      refine zm_i2l C dX9_readCode_32 ?_
      refine zm_lcmp C dX9_readCode_33 ?_
      refine zm_if_le (tgt := 42) C dX9_readCode_34 (by decide) (fun z => ?_) (fun z => ?_)
      · replace w := w.1 z
        exact w
      · replace w := w.2 z
        refine zm_aload_n C rfl 0 rfl dX9_readCode_37 ?_
        refine zm_iconst (v := nI 1) C (by decide) dX9_readCode_38 ?_
        refine zm_put C ff_X9_58 ft_X9 fp_X9_9_17 rfl rfl dX9_readCode_39 w (fun h3 w => ?_)
        exact w
set_option maxRecDepth 20000 in
theorem B_X9_readCode_42 {E : zm_E} {K : zm_K} {Post : zm_Po} {nc ns : Nat} (C : zm_Cx E K cX9_readCode RX9 3 57 0 0 8) (Rt : zm_Rt E Post 0 0 none) {a0 : Nat} {i1 : Int32} {l2 : Int64} {h : zm_H} (hnc : nc ≤ 0) (hns : ns ≤ 0) (w : zm_gI h a0 9 17 fun v1 => (v1 = 0 → zm_gI h a0 9 16 fun v2 => zm_rc h a0 9 ∧ zm_cl K M_X9_varint [.ref a0, .int (v2 + l2.toInt32)] h fun v3 h1 => zm_gI h1 a0 9 17 fun v4 => (¬ v4 = 0 → zm_Go E nc ns 95 [(0, .ref a0), (1, .int i1), (4, .int (v2 + l2.toInt32)), (5, .long v3)] [] h1) ∧ (v4 = 0 → ((lg_cmp v3 (lN 0)) < 0 → zm_Go E nc ns 90 [(0, .ref a0), (1, .int i1), (4, .int (v2 + l2.toInt32)), (5, .long v3)] [] h1) ∧ (¬ (lg_cmp v3 (lN 0)) < 0 → ((lg_cmp v3 (lN 2000)) ≤ 0 → zm_Go E nc ns 95 [(0, .ref a0), (1, .int i1), (4, .int (v2 + l2.toInt32)), (5, .long v3)] [] h1) ∧ (¬ (lg_cmp v3 (lN 2000)) ≤ 0 → zm_Go E nc ns 90 [(0, .ref a0), (1, .int i1), (4, .int (v2 + l2.toInt32)), (5, .long v3)] [] h1)))) ∧ (¬ v1 = 0 → Post none h)) : zm_Go E nc ns 42 [(0, .ref a0), (1, .int i1), (2, .long l2)] [] h := by
  refine zm_aload_n C rfl 0 rfl dX9_readCode_42 ?_
  refine zm_getI C ff_X9_58 dX9_readCode_43 w (fun v1 w => ?_)
  refine zm_if_eq (tgt := 50) C dX9_readCode_46 (by decide) (fun z => ?_) (fun z => ?_)
  · replace w := w.1 z
    refine zm_aload_n C rfl 0 rfl dX9_readCode_50 ?_
    refine zm_getI C ff_X9_61 dX9_readCode_51 w (fun v2 w => ?_)
    refine zm_lload_n C rfl 2 rfl dX9_readCode_54 ?_
    refine zm_l2i C dX9_readCode_55 ?_
    refine zm_iadd C dX9_readCode_56 ?_
    refine zm_istore (L' := [(0, .ref a0), (1, .int i1), (2, .long l2), (4, .int (v2 + l2.toInt32))]) C (by decide) [1, 2, 3, 0] dX9_readCode_57 rfl ?_
    refine zm_aload_n C rfl 0 rfl dX9_readCode_59 ?_
    refine zm_iload C 3 rfl dX9_readCode_60 ?_
    obtain ⟨wr, w⟩ := w
    refine zm_Vl (As := [.int (v2 + l2.toInt32)]) (rest := []) C M_X9_varint sv_X9_80 rfl dX9_readCode_62 rfl (Nat.le_of_ble_eq_true rfl) (by decide) (by decide) (by show nc + 0 ≤ 0; omega) (by show ns + 0 ≤ 0; omega) wr w (fun v3 h1 w => ?_)
    refine zm_lstore (L' := [(0, .ref a0), (1, .int i1), (2, .long l2), (4, .int (v2 + l2.toInt32)), (5, .long v3)]) C (by decide) [1, 2, 3, 4, 0] dX9_readCode_65 rfl ?_
    refine zm_aload_n C rfl 0 rfl dX9_readCode_67 ?_
    refine zm_getI C ff_X9_58 dX9_readCode_68 w (fun v4 w => ?_)
    refine zm_if_ne (tgt := 95) C dX9_readCode_71 (by decide) (fun z => ?_) (fun z => ?_)
    · replace w := w.1 z
      exact zm_loc [0, 1, 3, 4] rfl w
    · replace w := w.2 z
      refine zm_lload C 4 rfl dX9_readCode_74 ?_
      refine zm_lconst (v := lN 0) C (by decide) dX9_readCode_76 ?_
      refine zm_lcmp C dX9_readCode_77 ?_
      refine zm_if_lt (tgt := 90) C dX9_readCode_78 (by decide) (fun z => ?_) (fun z => ?_)
      · replace w := w.1 z
        exact zm_loc [0, 1, 3, 4] rfl w
      · replace w := w.2 z
        refine zm_lload C 4 rfl dX9_readCode_81 ?_
        refine zm_ldc2 (v := lN 2000) C (zm_inG (by decide +kernel) rfl) dX9_readCode_83 ?_
        refine zm_lcmp C dX9_readCode_86 ?_
        refine zm_if_le (tgt := 95) C dX9_readCode_87 (by decide) (fun z => ?_) (fun z => ?_)
        · replace w := w.1 z
          exact zm_loc [0, 1, 3, 4] rfl w
        · replace w := w.2 z
          exact zm_loc [0, 1, 3, 4] rfl w
  · replace w := w.2 z
    exact zm_return C Rt (by show nc ≤ 0; omega) (by show ns ≤ 0; omega) dX9_readCode_49 w
set_option maxRecDepth 20000 in
theorem B_X9_readCode_90 {E : zm_E} {K : zm_K} {Post : zm_Po} {nc ns : Nat} (C : zm_Cx E K cX9_readCode RX9 3 57 0 0 8) (Rt : zm_Rt E Post 0 0 none) {a0 : Nat} {i1 : Int32} {i4 : Int32} {l5 : Int64} {h : zm_H} (w : zm_pf h a0 9 17 (.int (nI 4)) fun h1 => zm_Go E nc ns 95 [(0, .ref a0), (1, .int i1), (4, .int i4), (5, .long l5)] [] h1) : zm_Go E nc ns 90 [(0, .ref a0), (1, .int i1), (4, .int i4), (5, .long l5)] [] h := by
  refine zm_aload_n C rfl 0 rfl dX9_readCode_90 ?_
  refine zm_iconst (v := nI 4) C (by decide) dX9_readCode_91 ?_
  refine zm_put C ff_X9_58 ft_X9 fp_X9_9_17 rfl rfl dX9_readCode_92 w (fun h1 w => ?_)
  exact w
set_option maxRecDepth 20000 in
theorem B_X9_readCode_95 {E : zm_E} {K : zm_K} {Post : zm_Po} {nc ns : Nat} (C : zm_Cx E K cX9_readCode RX9 3 57 0 0 8) (Rt : zm_Rt E Post 0 0 none) {a0 : Nat} {i1 : Int32} {i4 : Int32} {l5 : Int64} {h : zm_H} (hnc : nc ≤ 0) (hns : ns ≤ 0) (w : zm_gI h a0 9 17 fun v1 => (v1 = 0 → zm_pf h a0 9 19 (.int l5.toInt32) fun h1 => zm_gI h1 a0 9 19 fun v2 => (v2 ≤ 0 → zm_Go E nc ns 132 [(0, .ref a0), (1, .int i1), (4, .int i4)] [] h1) ∧ (¬ v2 ≤ 0 → zm_gR h1 a0 9 18 fun v3 => zm_rc h1 a0 9 ∧ zm_cl K M_X9_varint [.ref a0, .int i4] h1 fun v4 h2 => zm_cl K M_X9_unzigzag [.long v4] h2 fun v5 h3 => zm_sL K h3 v3 (nI 0) v5 fun h4 => zm_Go E nc ns 132 [(0, .ref a0), (1, .int i1), (4, .int i4)] [] h4)) ∧ (¬ v1 = 0 → Post none h)) : zm_Go E nc ns 95 [(0, .ref a0), (1, .int i1), (4, .int i4), (5, .long l5)] [] h := by
  refine zm_aload_n C rfl 0 rfl dX9_readCode_95 ?_
  refine zm_getI C ff_X9_58 dX9_readCode_96 w (fun v1 w => ?_)
  refine zm_if_eq (tgt := 103) C dX9_readCode_99 (by decide) (fun z => ?_) (fun z => ?_)
  · replace w := w.1 z
    refine zm_aload_n C rfl 0 rfl dX9_readCode_103 ?_
    refine zm_lload C 3 rfl dX9_readCode_104 ?_
    refine zm_l2i C dX9_readCode_106 ?_
    refine zm_put C ff_X9_102 ft_X9 fp_X9_9_19 rfl rfl dX9_readCode_107 w (fun h1 w => ?_)
    refine zm_aload_n C rfl 0 rfl dX9_readCode_110 ?_
    refine zm_getI C ff_X9_102 dX9_readCode_111 w (fun v2 w => ?_)
    refine zm_if_le (tgt := 132) C dX9_readCode_114 (by decide) (fun z => ?_) (fun z => ?_)
    · replace w := w.1 z
      exact zm_loc [0, 1, 2] rfl w
    · replace w := w.2 z
      refine zm_aload_n C rfl 0 rfl dX9_readCode_117 ?_
      refine zm_getR C ff_X9_38 dX9_readCode_118 w (fun v3 w => ?_)
      refine zm_iconst (v := nI 0) C (by decide) dX9_readCode_121 ?_
      refine zm_aload_n C rfl 0 rfl dX9_readCode_122 ?_
      refine zm_iload C 2 rfl dX9_readCode_123 ?_
      obtain ⟨wr, w⟩ := w
      refine zm_Vl (As := [.int i4]) (rest := [.int (nI 0), .ref v3]) C M_X9_varint sv_X9_80 rfl dX9_readCode_125 rfl (Nat.le_of_ble_eq_true rfl) (by decide) (by decide) (by show nc + 0 ≤ 0; omega) (by show ns + 0 ≤ 0; omega) wr w (fun v4 h2 w => ?_)
      refine zm_Sl (As := [.long v4]) (rest := [.int (nI 0), .ref v3]) C M_X9_unzigzag ss_X9_125 rfl dX9_readCode_128 rfl (Nat.le_of_ble_eq_true rfl) (by decide) (by decide) (by show nc + 0 ≤ 0; omega) (by show ns + 0 ≤ 0; omega) w (fun v5 h3 w => ?_)
      refine zm_stL C dX9_readCode_131 w (fun h4 w => ?_)
      exact zm_loc [0, 1, 2] rfl w
  · replace w := w.2 z
    exact zm_return C Rt (by show nc ≤ 0; omega) (by show ns ≤ 0; omega) dX9_readCode_102 w
set_option maxRecDepth 20000 in
theorem B_X9_readCode_132 {E : zm_E} {K : zm_K} {Post : zm_Po} {nc ns : Nat} (C : zm_Cx E K cX9_readCode RX9 3 57 0 0 8) (Rt : zm_Rt E Post 0 0 none) {a0 : Nat} {i1 : Int32} {i4 : Int32} {h : zm_H} (w : zm_Go E nc ns 135 [(0, .ref a0), (1, .int i1), (4, .int i4), (7, .int (nI 0))] [] h) : zm_Go E nc ns 132 [(0, .ref a0), (1, .int i1), (4, .int i4)] [] h := by
  refine zm_iconst (v := nI 0) C (by decide) dX9_readCode_132 ?_
  refine zm_istore (L' := [(0, .ref a0), (1, .int i1), (4, .int i4), (7, .int (nI 0))]) C (by decide) [1, 2, 3, 0] dX9_readCode_133 rfl ?_
  exact w
set_option maxRecDepth 20000 in
theorem B_X9_readCode_135 {E : zm_E} {K : zm_K} {Post : zm_Po} {nc ns : Nat} (C : zm_Cx E K cX9_readCode RX9 3 57 0 0 8) (Rt : zm_Rt E Post 0 0 none) {a0 : Nat} {i1 : Int32} {i4 : Int32} {i7 : Int32} {h : zm_H} (hnc : nc ≤ 0) (hns : ns ≤ 0) (w : zm_gI h a0 9 19 fun v1 => ((v1 - (nI 1)) ≤ i7 → zm_gI h a0 9 17 fun v2 => (¬ v2 = 0 → zm_Go E nc ns 217 [(0, .ref a0), (1, .int i1)] [] h) ∧ (v2 = 0 → zm_gI h a0 9 16 fun v3 => (i4 ≤ v3 → zm_Go E nc ns 217 [(0, .ref a0), (1, .int i1)] [] h) ∧ (¬ i4 ≤ v3 → zm_pf h a0 9 17 (.int (nI 6)) fun h1 => zm_Go E nc ns 217 [(0, .ref a0), (1, .int i1)] [] h1))) ∧ (¬ (v1 - (nI 1)) ≤ i7 → zm_gI h a0 9 17 fun v4 => (¬ v4 = 0 → zm_gI h a0 9 17 fun v5 => (¬ v5 = 0 → zm_Go E nc ns 217 [(0, .ref a0), (1, .int i1)] [] h) ∧ (v5 = 0 → zm_gI h a0 9 16 fun v6 => (i4 ≤ v6 → zm_Go E nc ns 217 [(0, .ref a0), (1, .int i1)] [] h) ∧ (¬ i4 ≤ v6 → zm_pf h a0 9 17 (.int (nI 6)) fun h2 => zm_Go E nc ns 217 [(0, .ref a0), (1, .int i1)] [] h2))) ∧ (v4 = 0 → zm_gI h a0 9 19 fun v7 => ((v7 - (nI 1)) ≤ (i7 + (nI 64)) → zm_gI h a0 9 19 fun v8 => zm_rc h a0 9 ∧ zm_cv K M_X9_readBlock [.ref a0, .int i7, .int (v8 - (nI 1)), .int i4] h fun h3 => zm_Go E nc ns 135 [(0, .ref a0), (1, .int i1), (4, .int i4), (7, .int (i7 + (nI 64)))] [] h3) ∧ (¬ (v7 - (nI 1)) ≤ (i7 + (nI 64)) → zm_rc h a0 9 ∧ zm_cv K M_X9_readBlock [.ref a0, .int i7, .int (i7 + (nI 64)), .int i4] h fun h4 => zm_Go E nc ns 135 [(0, .ref a0), (1, .int i1), (4, .int i4), (7, .int (i7 + (nI 64)))] [] h4)))) : zm_Go E nc ns 135 [(0, .ref a0), (1, .int i1), (4, .int i4), (7, .int i7)] [] h := by
  refine zm_iload C 3 rfl dX9_readCode_135 ?_
  refine zm_aload_n C rfl 0 rfl dX9_readCode_137 ?_
  refine zm_getI C ff_X9_102 dX9_readCode_138 w (fun v1 w => ?_)
  refine zm_iconst (v := nI 1) C (by decide) dX9_readCode_141 ?_
  refine zm_isub C dX9_readCode_142 ?_
  refine zm_icmp_ge (tgt := 195) C dX9_readCode_143 (by decide) (fun z => ?_) (fun z => ?_)
  · replace w := w.1 z
    refine zm_aload_n C rfl 0 rfl dX9_readCode_195 ?_
    refine zm_getI C ff_X9_58 dX9_readCode_196 w (fun v2 w => ?_)
    refine zm_if_ne (tgt := 217) C dX9_readCode_199 (by decide) (fun z => ?_) (fun z => ?_)
    · replace w := w.1 z
      exact zm_loc [0, 1] rfl w
    · replace w := w.2 z
      refine zm_aload_n C rfl 0 rfl dX9_readCode_202 ?_
      refine zm_getI C ff_X9_61 dX9_readCode_203 w (fun v3 w => ?_)
      refine zm_iload C 2 rfl dX9_readCode_206 ?_
      refine zm_icmp_ge (tgt := 217) C dX9_readCode_208 (by decide) (fun z => ?_) (fun z => ?_)
      · replace w := w.1 z
        exact zm_loc [0, 1] rfl w
      · replace w := w.2 z
        refine zm_aload_n C rfl 0 rfl dX9_readCode_211 ?_
        refine zm_bipush (v := nI 6) C (by decide) dX9_readCode_212 ?_
        refine zm_put C ff_X9_58 ft_X9 fp_X9_9_17 rfl rfl dX9_readCode_214 w (fun h1 w => ?_)
        exact zm_loc [0, 1] rfl w
  · replace w := w.2 z
    refine zm_aload_n C rfl 0 rfl dX9_readCode_146 ?_
    refine zm_getI C ff_X9_58 dX9_readCode_147 w (fun v4 w => ?_)
    refine zm_if_ne (tgt := 195) C dX9_readCode_150 (by decide) (fun z => ?_) (fun z => ?_)
    · replace w := w.1 z
      refine zm_aload_n C rfl 0 rfl dX9_readCode_195 ?_
      refine zm_getI C ff_X9_58 dX9_readCode_196 w (fun v5 w => ?_)
      refine zm_if_ne (tgt := 217) C dX9_readCode_199 (by decide) (fun z => ?_) (fun z => ?_)
      · replace w := w.1 z
        exact zm_loc [0, 1] rfl w
      · replace w := w.2 z
        refine zm_aload_n C rfl 0 rfl dX9_readCode_202 ?_
        refine zm_getI C ff_X9_61 dX9_readCode_203 w (fun v6 w => ?_)
        refine zm_iload C 2 rfl dX9_readCode_206 ?_
        refine zm_icmp_ge (tgt := 217) C dX9_readCode_208 (by decide) (fun z => ?_) (fun z => ?_)
        · replace w := w.1 z
          exact zm_loc [0, 1] rfl w
        · replace w := w.2 z
          refine zm_aload_n C rfl 0 rfl dX9_readCode_211 ?_
          refine zm_bipush (v := nI 6) C (by decide) dX9_readCode_212 ?_
          refine zm_put C ff_X9_58 ft_X9 fp_X9_9_17 rfl rfl dX9_readCode_214 w (fun h2 w => ?_)
          exact zm_loc [0, 1] rfl w
    · replace w := w.2 z
      refine zm_aload_n C rfl 0 rfl dX9_readCode_153 ?_
      refine zm_iload C 3 rfl dX9_readCode_154 ?_
      refine zm_iload C 3 rfl dX9_readCode_156 ?_
      refine zm_bipush (v := nI 64) C (by decide) dX9_readCode_158 ?_
      refine zm_iadd C dX9_readCode_160 ?_
      refine zm_aload_n C rfl 0 rfl dX9_readCode_161 ?_
      refine zm_getI C ff_X9_102 dX9_readCode_162 w (fun v7 w => ?_)
      refine zm_iconst (v := nI 1) C (by decide) dX9_readCode_165 ?_
      refine zm_isub C dX9_readCode_166 ?_
      refine zm_icmp_ge (tgt := 178) C dX9_readCode_167 (by decide) (fun z => ?_) (fun z => ?_)
      · replace w := w.1 z
        refine zm_aload_n C rfl 0 rfl dX9_readCode_178 ?_
        refine zm_getI C ff_X9_102 dX9_readCode_179 w (fun v8 w => ?_)
        refine zm_iconst (v := nI 1) C (by decide) dX9_readCode_182 ?_
        refine zm_isub C dX9_readCode_183 ?_
        refine zm_iload C 2 rfl dX9_readCode_184 ?_
        obtain ⟨wr, w⟩ := w
        refine zm_Vv (As := [.int i7, .int (v8 - (nI 1)), .int i4]) (rest := []) C M_X9_readBlock sv_X9_128 rfl dX9_readCode_186 rfl (Nat.le_of_ble_eq_true rfl) (by decide) (by decide) (by show nc + 0 ≤ 0; omega) (by show ns + 0 ≤ 0; omega) wr w (fun h3 w => ?_)
        refine zm_iinc (L' := [(0, .ref a0), (1, .int i1), (4, .int i4), (7, .int (i7 + (nI 64)))]) C (by decide) 3 [1, 2, 3, 0] dX9_readCode_189 rfl rfl rfl ?_
        refine zm_goto (tgt := 135) C dX9_readCode_192 (by decide) ?_
        exact w
      · replace w := w.2 z
        refine zm_iload C 3 rfl dX9_readCode_170 ?_
        refine zm_bipush (v := nI 64) C (by decide) dX9_readCode_172 ?_
        refine zm_iadd C dX9_readCode_174 ?_
        refine zm_goto (tgt := 184) C dX9_readCode_175 (by decide) ?_
        refine zm_iload C 2 rfl dX9_readCode_184 ?_
        obtain ⟨wr, w⟩ := w
        refine zm_Vv (As := [.int i7, .int (i7 + (nI 64)), .int i4]) (rest := []) C M_X9_readBlock sv_X9_128 rfl dX9_readCode_186 rfl (Nat.le_of_ble_eq_true rfl) (by decide) (by decide) (by show nc + 0 ≤ 0; omega) (by show ns + 0 ≤ 0; omega) wr w (fun h4 w => ?_)
        refine zm_iinc (L' := [(0, .ref a0), (1, .int i1), (4, .int i4), (7, .int (i7 + (nI 64)))]) C (by decide) 3 [1, 2, 3, 0] dX9_readCode_189 rfl rfl rfl ?_
        refine zm_goto (tgt := 135) C dX9_readCode_192 (by decide) ?_
        exact w
set_option maxRecDepth 20000 in
theorem B_X9_readCode_217 {E : zm_E} {K : zm_K} {Post : zm_Po} {nc ns : Nat} (C : zm_Cx E K cX9_readCode RX9 3 57 0 0 8) (Rt : zm_Rt E Post 0 0 none) {a0 : Nat} {i1 : Int32} {h : zm_H} (w : zm_gI h a0 9 17 fun v1 => (¬ v1 = 0 → zm_Go E nc ns 237 [] [] h) ∧ (v1 = 0 → zm_gI h a0 9 19 fun v2 => (v2 = i1 → zm_Go E nc ns 237 [] [] h) ∧ (¬ v2 = i1 → zm_pf h a0 9 17 (.int (nI 4)) fun h1 => zm_Go E nc ns 237 [] [] h1))) : zm_Go E nc ns 217 [(0, .ref a0), (1, .int i1)] [] h := by
  refine zm_aload_n C rfl 0 rfl dX9_readCode_217 ?_
  refine zm_getI C ff_X9_58 dX9_readCode_218 w (fun v1 w => ?_)
  refine zm_if_ne (tgt := 237) C dX9_readCode_221 (by decide) (fun z => ?_) (fun z => ?_)
  · replace w := w.1 z
    exact zm_loc [] rfl w
  · replace w := w.2 z
    refine zm_aload_n C rfl 0 rfl dX9_readCode_224 ?_
    refine zm_getI C ff_X9_102 dX9_readCode_225 w (fun v2 w => ?_)
    refine zm_iload_n C rfl 1 rfl dX9_readCode_228 ?_
    refine zm_icmp_eq (tgt := 237) C dX9_readCode_229 (by decide) (fun z => ?_) (fun z => ?_)
    · replace w := w.1 z
      exact zm_loc [] rfl w
    · replace w := w.2 z
      refine zm_aload_n C rfl 0 rfl dX9_readCode_232 ?_
      refine zm_iconst (v := nI 4) C (by decide) dX9_readCode_233 ?_
      refine zm_put C ff_X9_58 ft_X9 fp_X9_9_17 rfl rfl dX9_readCode_234 w (fun h1 w => ?_)
      exact zm_loc [] rfl w
set_option maxRecDepth 20000 in
theorem B_X9_readCode_237 {E : zm_E} {K : zm_K} {Post : zm_Po} {nc ns : Nat} (C : zm_Cx E K cX9_readCode RX9 3 57 0 0 8) (Rt : zm_Rt E Post 0 0 none)  {h : zm_H} (hnc : nc ≤ 0) (hns : ns ≤ 0) (w : Post none h) : zm_Go E nc ns 237 [] [] h := by
  exact zm_return C Rt (by show nc ≤ 0; omega) (by show ns ≤ 0; omega) dX9_readCode_237 w
set_option maxRecDepth 20000 in
theorem B_X9_readBlock_0 {E : zm_E} {K : zm_K} {Post : zm_Po} {nc ns : Nat} (C : zm_Cx E K cX9_readBlock RX9 2 25 0 0 13) (Rt : zm_Rt E Post 0 0 none) {a0 : Nat} {i1 : Int32} {i2 : Int32} {i3 : Int32} {h : zm_H} (hnc : nc ≤ 0) (hns : ns ≤ 0) (w : zm_rc h a0 9 ∧ zm_cl K M_X9_varint [.ref a0, .int i3] h fun v1 h1 => zm_cl K M_X9_unzigzag [.long v1] h1 fun v2 h2 => zm_gI h2 a0 9 16 fun v3 => zm_Go E nc ns 19 [(0, .ref a0), (1, .int i1), (2, .int i2), (3, .int i3), (4, .long v2), (6, .int v3), (7, .int (nI 0))] [] h2) : zm_Go E nc ns 0 [(0, .ref a0), (1, .int i1), (2, .int i2), (3, .int i3)] [] h := by
  refine zm_aload_n C rfl 0 rfl dX9_readBlock_0 ?_
  refine zm_iload_n C rfl 3 rfl dX9_readBlock_1 ?_
  obtain ⟨wr, w⟩ := w
  refine zm_Vl (As := [.int i3]) (rest := []) C M_X9_varint sv_X9_80 rfl dX9_readBlock_2 rfl (Nat.le_of_ble_eq_true rfl) (by decide) (by decide) (by show nc + 0 ≤ 0; omega) (by show ns + 0 ≤ 0; omega) wr w (fun v1 h1 w => ?_)
  refine zm_Sl (As := [.long v1]) (rest := []) C M_X9_unzigzag ss_X9_125 rfl dX9_readBlock_5 rfl (Nat.le_of_ble_eq_true rfl) (by decide) (by decide) (by show nc + 0 ≤ 0; omega) (by show ns + 0 ≤ 0; omega) w (fun v2 h2 w => ?_)
  refine zm_lstore (L' := [(0, .ref a0), (1, .int i1), (2, .int i2), (3, .int i3), (4, .long v2)]) C (by decide) [1, 2, 3, 4, 0] dX9_readBlock_8 rfl ?_
  refine zm_aload_n C rfl 0 rfl dX9_readBlock_10 ?_
  refine zm_getI C ff_X9_61 dX9_readBlock_11 w (fun v3 w => ?_)
  refine zm_istore (L' := [(0, .ref a0), (1, .int i1), (2, .int i2), (3, .int i3), (4, .long v2), (6, .int v3)]) C (by decide) [1, 2, 3, 4, 5, 0] dX9_readBlock_14 rfl ?_
  refine zm_iconst (v := nI 0) C (by decide) dX9_readBlock_16 ?_
  refine zm_istore (L' := [(0, .ref a0), (1, .int i1), (2, .int i2), (3, .int i3), (4, .long v2), (6, .int v3), (7, .int (nI 0))]) C (by decide) [1, 2, 3, 4, 5, 6, 0] dX9_readBlock_17 rfl ?_
  exact w
set_option maxRecDepth 20000 in
theorem B_X9_readBlock_19 {E : zm_E} {K : zm_K} {Post : zm_Po} {nc ns : Nat} (C : zm_Cx E K cX9_readBlock RX9 2 25 0 0 13) (Rt : zm_Rt E Post 0 0 none) {a0 : Nat} {i1 : Int32} {i2 : Int32} {i3 : Int32} {l4 : Int64} {i6 : Int32} {i7 : Int32} {h : zm_H} (w : ((nI 4) ≤ i7 → zm_Go E nc ns 109 [(0, .ref a0), (1, .int i1), (2, .int i2), (3, .int i3), (4, .long l4), (6, .int i6), (7, .int (nI 0))] [] h) ∧ (¬ (nI 4) ≤ i7 → zm_gI h a0 9 17 fun v1 => (¬ v1 = 0 → zm_Go E nc ns 109 [(0, .ref a0), (1, .int i1), (2, .int i2), (3, .int i3), (4, .long l4), (6, .int i6), (7, .int (nI 0))] [] h) ∧ (v1 = 0 → zm_gI h a0 9 16 fun v2 => (v2 < i3 → zm_gR h a0 9 11 fun v3 => zm_gI h a0 9 16 fun v4 => zm_ld K 1 h v3 v4 fun v5 => ((nI 64) < v5 → zm_pf h a0 9 17 (.int (nI 5)) fun h1 => zm_gI h1 a0 9 16 fun v6 => zm_pf h1 a0 9 16 (.int (v6 + (nI 1))) fun h2 => zm_Go E nc ns 19 [(0, .ref a0), (1, .int i1), (2, .int i2), (3, .int i3), (4, .long l4), (6, .int i6), (7, .int (i7 + (nI 1)))] [] h2) ∧ (¬ (nI 64) < v5 → zm_gR h a0 9 11 fun v7 => zm_gI h a0 9 16 fun v8 => zm_ld K 1 h v7 v8 fun v9 => (v9 ≤ 0 → zm_gI h a0 9 16 fun v10 => zm_pf h a0 9 16 (.int (v10 + (nI 1))) fun h3 => zm_Go E nc ns 19 [(0, .ref a0), (1, .int i1), (2, .int i2), (3, .int i3), (4, .long l4), (6, .int i6), (7, .int (i7 + (nI 1)))] [] h3) ∧ (¬ v9 ≤ 0 → ((i1 + ((nI 16) * i7)) < i2 → zm_gI h a0 9 16 fun v11 => zm_pf h a0 9 16 (.int (v11 + (nI 1))) fun h4 => zm_Go E nc ns 19 [(0, .ref a0), (1, .int i1), (2, .int i2), (3, .int i3), (4, .long l4), (6, .int i6), (7, .int (i7 + (nI 1)))] [] h4) ∧ (¬ (i1 + ((nI 16) * i7)) < i2 → zm_pf h a0 9 17 (.int (nI 5)) fun h5 => zm_gI h5 a0 9 16 fun v12 => zm_pf h5 a0 9 16 (.int (v12 + (nI 1))) fun h6 => zm_Go E nc ns 19 [(0, .ref a0), (1, .int i1), (2, .int i2), (3, .int i3), (4, .long l4), (6, .int i6), (7, .int (i7 + (nI 1)))] [] h6)))) ∧ (¬ v2 < i3 → zm_pf h a0 9 17 (.int (nI 1)) fun h7 => zm_gI h7 a0 9 16 fun v13 => zm_pf h7 a0 9 16 (.int (v13 + (nI 1))) fun h8 => zm_Go E nc ns 19 [(0, .ref a0), (1, .int i1), (2, .int i2), (3, .int i3), (4, .long l4), (6, .int i6), (7, .int (i7 + (nI 1)))] [] h8)))) : zm_Go E nc ns 19 [(0, .ref a0), (1, .int i1), (2, .int i2), (3, .int i3), (4, .long l4), (6, .int i6), (7, .int i7)] [] h := by
  refine zm_iload C 6 rfl dX9_readBlock_19 ?_
  refine zm_iconst (v := nI 4) C (by decide) dX9_readBlock_21 ?_
  refine zm_icmp_ge (tgt := 106) C dX9_readBlock_22 (by decide) (fun z => ?_) (fun z => ?_)
  · replace w := w.1 z
    refine zm_iconst (v := nI 0) C (by decide) dX9_readBlock_106 ?_
    refine zm_istore (L' := [(0, .ref a0), (1, .int i1), (2, .int i2), (3, .int i3), (4, .long l4), (6, .int i6), (7, .int (nI 0))]) C (by decide) [1, 2, 3, 4, 5, 6, 0] dX9_readBlock_107 rfl ?_
    exact w
  · replace w := w.2 z
    refine zm_aload_n C rfl 0 rfl dX9_readBlock_25 ?_
    refine zm_getI C ff_X9_58 dX9_readBlock_26 w (fun v1 w => ?_)
    refine zm_if_ne (tgt := 106) C dX9_readBlock_29 (by decide) (fun z => ?_) (fun z => ?_)
    · replace w := w.1 z
      refine zm_iconst (v := nI 0) C (by decide) dX9_readBlock_106 ?_
      refine zm_istore (L' := [(0, .ref a0), (1, .int i1), (2, .int i2), (3, .int i3), (4, .long l4), (6, .int i6), (7, .int (nI 0))]) C (by decide) [1, 2, 3, 4, 5, 6, 0] dX9_readBlock_107 rfl ?_
      exact w
    · replace w := w.2 z
      refine zm_aload_n C rfl 0 rfl dX9_readBlock_32 ?_
      refine zm_getI C ff_X9_61 dX9_readBlock_33 w (fun v2 w => ?_)
      refine zm_iload_n C rfl 3 rfl dX9_readBlock_36 ?_
      refine zm_icmp_lt (tgt := 48) C dX9_readBlock_37 (by decide) (fun z => ?_) (fun z => ?_)
      · replace w := w.1 z
        refine zm_aload_n C rfl 0 rfl dX9_readBlock_48 ?_
        refine zm_getR C ff_X9_31 dX9_readBlock_49 w (fun v3 w => ?_)
        refine zm_aload_n C rfl 0 rfl dX9_readBlock_52 ?_
        refine zm_getI C ff_X9_61 dX9_readBlock_53 w (fun v4 w => ?_)
        refine zm_ldI C dX9_readBlock_56 w (fun v5 w => ?_)
        refine zm_bipush (v := nI 64) C (by decide) dX9_readBlock_57 ?_
        refine zm_icmp_gt (tgt := 85) C dX9_readBlock_59 (by decide) (fun z => ?_) (fun z => ?_)
        · replace w := w.1 z
          refine zm_aload_n C rfl 0 rfl dX9_readBlock_85 ?_
          refine zm_iconst (v := nI 5) C (by decide) dX9_readBlock_86 ?_
          refine zm_put C ff_X9_58 ft_X9 fp_X9_9_17 rfl rfl dX9_readBlock_87 w (fun h1 w => ?_)
          refine zm_aload_n C rfl 0 rfl dX9_readBlock_90 ?_
          refine zm_dup C rfl dX9_readBlock_91 ?_
          refine zm_getI C ff_X9_61 dX9_readBlock_92 w (fun v6 w => ?_)
          refine zm_iconst (v := nI 1) C (by decide) dX9_readBlock_95 ?_
          refine zm_iadd C dX9_readBlock_96 ?_
          refine zm_put C ff_X9_61 ft_X9 fp_X9_9_16 rfl rfl dX9_readBlock_97 w (fun h2 w => ?_)
          refine zm_iinc (L' := [(0, .ref a0), (1, .int i1), (2, .int i2), (3, .int i3), (4, .long l4), (6, .int i6), (7, .int (i7 + (nI 1)))]) C (by decide) 6 [1, 2, 3, 4, 5, 6, 0] dX9_readBlock_100 rfl rfl rfl ?_
          refine zm_goto (tgt := 19) C dX9_readBlock_103 (by decide) ?_
          exact w
        · replace w := w.2 z
          refine zm_aload_n C rfl 0 rfl dX9_readBlock_62 ?_
          refine zm_getR C ff_X9_31 dX9_readBlock_63 w (fun v7 w => ?_)
          refine zm_aload_n C rfl 0 rfl dX9_readBlock_66 ?_
          refine zm_getI C ff_X9_61 dX9_readBlock_67 w (fun v8 w => ?_)
          refine zm_ldI C dX9_readBlock_70 w (fun v9 w => ?_)
          refine zm_if_le (tgt := 90) C dX9_readBlock_71 (by decide) (fun z => ?_) (fun z => ?_)
          · replace w := w.1 z
            refine zm_aload_n C rfl 0 rfl dX9_readBlock_90 ?_
            refine zm_dup C rfl dX9_readBlock_91 ?_
            refine zm_getI C ff_X9_61 dX9_readBlock_92 w (fun v10 w => ?_)
            refine zm_iconst (v := nI 1) C (by decide) dX9_readBlock_95 ?_
            refine zm_iadd C dX9_readBlock_96 ?_
            refine zm_put C ff_X9_61 ft_X9 fp_X9_9_16 rfl rfl dX9_readBlock_97 w (fun h3 w => ?_)
            refine zm_iinc (L' := [(0, .ref a0), (1, .int i1), (2, .int i2), (3, .int i3), (4, .long l4), (6, .int i6), (7, .int (i7 + (nI 1)))]) C (by decide) 6 [1, 2, 3, 4, 5, 6, 0] dX9_readBlock_100 rfl rfl rfl ?_
            refine zm_goto (tgt := 19) C dX9_readBlock_103 (by decide) ?_
            exact w
          · replace w := w.2 z
            refine zm_iload_n C rfl 1 rfl dX9_readBlock_74 ?_
            refine zm_bipush (v := nI 16) C (by decide) dX9_readBlock_75 ?_
            refine zm_iload C 6 rfl dX9_readBlock_77 ?_
            refine zm_imul C dX9_readBlock_79 ?_
            refine zm_iadd C dX9_readBlock_80 ?_
            refine zm_iload_n C rfl 2 rfl dX9_readBlock_81 ?_
            refine zm_icmp_lt (tgt := 90) C dX9_readBlock_82 (by decide) (fun z => ?_) (fun z => ?_)
            · replace w := w.1 z
              refine zm_aload_n C rfl 0 rfl dX9_readBlock_90 ?_
              refine zm_dup C rfl dX9_readBlock_91 ?_
              refine zm_getI C ff_X9_61 dX9_readBlock_92 w (fun v11 w => ?_)
              refine zm_iconst (v := nI 1) C (by decide) dX9_readBlock_95 ?_
              refine zm_iadd C dX9_readBlock_96 ?_
              refine zm_put C ff_X9_61 ft_X9 fp_X9_9_16 rfl rfl dX9_readBlock_97 w (fun h4 w => ?_)
              refine zm_iinc (L' := [(0, .ref a0), (1, .int i1), (2, .int i2), (3, .int i3), (4, .long l4), (6, .int i6), (7, .int (i7 + (nI 1)))]) C (by decide) 6 [1, 2, 3, 4, 5, 6, 0] dX9_readBlock_100 rfl rfl rfl ?_
              refine zm_goto (tgt := 19) C dX9_readBlock_103 (by decide) ?_
              exact w
            · replace w := w.2 z
              refine zm_aload_n C rfl 0 rfl dX9_readBlock_85 ?_
              refine zm_iconst (v := nI 5) C (by decide) dX9_readBlock_86 ?_
              refine zm_put C ff_X9_58 ft_X9 fp_X9_9_17 rfl rfl dX9_readBlock_87 w (fun h5 w => ?_)
              refine zm_aload_n C rfl 0 rfl dX9_readBlock_90 ?_
              refine zm_dup C rfl dX9_readBlock_91 ?_
              refine zm_getI C ff_X9_61 dX9_readBlock_92 w (fun v12 w => ?_)
              refine zm_iconst (v := nI 1) C (by decide) dX9_readBlock_95 ?_
              refine zm_iadd C dX9_readBlock_96 ?_
              refine zm_put C ff_X9_61 ft_X9 fp_X9_9_16 rfl rfl dX9_readBlock_97 w (fun h6 w => ?_)
              refine zm_iinc (L' := [(0, .ref a0), (1, .int i1), (2, .int i2), (3, .int i3), (4, .long l4), (6, .int i6), (7, .int (i7 + (nI 1)))]) C (by decide) 6 [1, 2, 3, 4, 5, 6, 0] dX9_readBlock_100 rfl rfl rfl ?_
              refine zm_goto (tgt := 19) C dX9_readBlock_103 (by decide) ?_
              exact w
      · replace w := w.2 z
        refine zm_aload_n C rfl 0 rfl dX9_readBlock_40 ?_
        refine zm_iconst (v := nI 1) C (by decide) dX9_readBlock_41 ?_
        refine zm_put C ff_X9_58 ft_X9 fp_X9_9_17 rfl rfl dX9_readBlock_42 w (fun h7 w => ?_)
        refine zm_goto (tgt := 90) C dX9_readBlock_45 (by decide) ?_
        refine zm_aload_n C rfl 0 rfl dX9_readBlock_90 ?_
        refine zm_dup C rfl dX9_readBlock_91 ?_
        refine zm_getI C ff_X9_61 dX9_readBlock_92 w (fun v13 w => ?_)
        refine zm_iconst (v := nI 1) C (by decide) dX9_readBlock_95 ?_
        refine zm_iadd C dX9_readBlock_96 ?_
        refine zm_put C ff_X9_61 ft_X9 fp_X9_9_16 rfl rfl dX9_readBlock_97 w (fun h8 w => ?_)
        refine zm_iinc (L' := [(0, .ref a0), (1, .int i1), (2, .int i2), (3, .int i3), (4, .long l4), (6, .int i6), (7, .int (i7 + (nI 1)))]) C (by decide) 6 [1, 2, 3, 4, 5, 6, 0] dX9_readBlock_100 rfl rfl rfl ?_
        refine zm_goto (tgt := 19) C dX9_readBlock_103 (by decide) ?_
        exact w
set_option maxRecDepth 20000 in
theorem B_X9_readBlock_109 {E : zm_E} {K : zm_K} {Post : zm_Po} {nc ns : Nat} (C : zm_Cx E K cX9_readBlock RX9 2 25 0 0 13) (Rt : zm_Rt E Post 0 0 none) {a0 : Nat} {i1 : Int32} {i2 : Int32} {i3 : Int32} {l4 : Int64} {i6 : Int32} {i7 : Int32} {h : zm_H} (hnc : nc ≤ 0) (hns : ns ≤ 0) (w : ((nI 4) ≤ i7 → Post none h) ∧ (¬ (nI 4) ≤ i7 → zm_gI h a0 9 17 fun v1 => (¬ v1 = 0 → Post none h) ∧ (v1 = 0 → (i2 ≤ (i1 + ((nI 16) * i7)) → Post none h) ∧ (¬ i2 ≤ (i1 + ((nI 16) * i7)) → zm_gR h a0 9 11 fun v2 => zm_ld K 1 h v2 (i6 + i7) fun v3 => zm_gI h a0 9 16 fun v4 => (((nI 2) * v3) ≤ (i3 - v4) → zm_Go E nc ns 166 [(0, .ref a0), (1, .int i1), (2, .int i2), (3, .int i3), (4, .long l4), (6, .int i6), (7, .int i7), (8, .int v3), (9, .int (nI 0))] [] h) ∧ (¬ ((nI 2) * v3) ≤ (i3 - v4) → zm_pf h a0 9 17 (.int (nI 1)) fun h1 => zm_Go E nc ns 166 [(0, .ref a0), (1, .int i1), (2, .int i2), (3, .int i3), (4, .long l4), (6, .int i6), (7, .int i7), (8, .int v3), (9, .int (nI 0))] [] h1))))) : zm_Go E nc ns 109 [(0, .ref a0), (1, .int i1), (2, .int i2), (3, .int i3), (4, .long l4), (6, .int i6), (7, .int i7)] [] h := by
  refine zm_iload C 6 rfl dX9_readBlock_109 ?_
  refine zm_iconst (v := nI 4) C (by decide) dX9_readBlock_111 ?_
  refine zm_icmp_ge (tgt := 324) C dX9_readBlock_112 (by decide) (fun z => ?_) (fun z => ?_)
  · replace w := w.1 z
    exact zm_return C Rt (by show nc ≤ 0; omega) (by show ns ≤ 0; omega) dX9_readBlock_324 w
  · replace w := w.2 z
    refine zm_aload_n C rfl 0 rfl dX9_readBlock_115 ?_
    refine zm_getI C ff_X9_58 dX9_readBlock_116 w (fun v1 w => ?_)
    refine zm_if_ne (tgt := 324) C dX9_readBlock_119 (by decide) (fun z => ?_) (fun z => ?_)
    · replace w := w.1 z
      exact zm_return C Rt (by show nc ≤ 0; omega) (by show ns ≤ 0; omega) dX9_readBlock_324 w
    · replace w := w.2 z
      refine zm_iload_n C rfl 1 rfl dX9_readBlock_122 ?_
      refine zm_bipush (v := nI 16) C (by decide) dX9_readBlock_123 ?_
      refine zm_iload C 6 rfl dX9_readBlock_125 ?_
      refine zm_imul C dX9_readBlock_127 ?_
      refine zm_iadd C dX9_readBlock_128 ?_
      refine zm_iload_n C rfl 2 rfl dX9_readBlock_129 ?_
      refine zm_icmp_ge (tgt := 324) C dX9_readBlock_130 (by decide) (fun z => ?_) (fun z => ?_)
      · replace w := w.1 z
        exact zm_return C Rt (by show nc ≤ 0; omega) (by show ns ≤ 0; omega) dX9_readBlock_324 w
      · replace w := w.2 z
        refine zm_aload_n C rfl 0 rfl dX9_readBlock_133 ?_
        refine zm_getR C ff_X9_31 dX9_readBlock_134 w (fun v2 w => ?_)
        refine zm_iload C 5 rfl dX9_readBlock_137 ?_
        refine zm_iload C 6 rfl dX9_readBlock_139 ?_
        refine zm_iadd C dX9_readBlock_141 ?_
        refine zm_ldI C dX9_readBlock_142 w (fun v3 w => ?_)
        refine zm_istore (L' := [(0, .ref a0), (1, .int i1), (2, .int i2), (3, .int i3), (4, .long l4), (6, .int i6), (7, .int i7), (8, .int v3)]) C (by decide) [1, 2, 3, 4, 5, 6, 7, 0] dX9_readBlock_143 rfl ?_
        refine zm_iload_n C rfl 3 rfl dX9_readBlock_145 ?_
        refine zm_aload_n C rfl 0 rfl dX9_readBlock_146 ?_
        refine zm_getI C ff_X9_61 dX9_readBlock_147 w (fun v4 w => ?_)
        refine zm_isub C dX9_readBlock_150 ?_
        refine zm_iconst (v := nI 2) C (by decide) dX9_readBlock_151 ?_
        refine zm_iload C 7 rfl dX9_readBlock_152 ?_
        refine zm_imul C dX9_readBlock_154 ?_
        refine zm_icmp_ge (tgt := 163) C dX9_readBlock_155 (by decide) (fun z => ?_) (fun z => ?_)
        · replace w := w.1 z
          refine zm_iconst (v := nI 0) C (by decide) dX9_readBlock_163 ?_
          refine zm_istore (L' := [(0, .ref a0), (1, .int i1), (2, .int i2), (3, .int i3), (4, .long l4), (6, .int i6), (7, .int i7), (8, .int v3), (9, .int (nI 0))]) C (by decide) [1, 2, 3, 4, 5, 6, 7, 8, 0] dX9_readBlock_164 rfl ?_
          exact w
        · replace w := w.2 z
          refine zm_aload_n C rfl 0 rfl dX9_readBlock_158 ?_
          refine zm_iconst (v := nI 1) C (by decide) dX9_readBlock_159 ?_
          refine zm_put C ff_X9_58 ft_X9 fp_X9_9_17 rfl rfl dX9_readBlock_160 w (fun h1 w => ?_)
          refine zm_iconst (v := nI 0) C (by decide) dX9_readBlock_163 ?_
          refine zm_istore (L' := [(0, .ref a0), (1, .int i1), (2, .int i2), (3, .int i3), (4, .long l4), (6, .int i6), (7, .int i7), (8, .int v3), (9, .int (nI 0))]) C (by decide) [1, 2, 3, 4, 5, 6, 7, 8, 0] dX9_readBlock_164 rfl ?_
          exact w
set_option maxRecDepth 20000 in
theorem B_X9_readBlock_166 {E : zm_E} {K : zm_K} {Post : zm_Po} {nc ns : Nat} (C : zm_Cx E K cX9_readBlock RX9 2 25 0 0 13) (Rt : zm_Rt E Post 0 0 none) {a0 : Nat} {i1 : Int32} {i2 : Int32} {i3 : Int32} {l4 : Int64} {i6 : Int32} {i7 : Int32} {i8 : Int32} {i9 : Int32} {h : zm_H} (w : ((nI 16) ≤ i9 → zm_gI h a0 9 16 fun v1 => zm_pf h a0 9 16 (.int (v1 + ((nI 2) * i8))) fun h1 => zm_Go E nc ns 109 [(0, .ref a0), (1, .int i1), (2, .int i2), (3, .int i3), (4, .long l4), (6, .int i6), (7, .int (i7 + (nI 1)))] [] h1) ∧ (¬ (nI 16) ≤ i9 → zm_gI h a0 9 17 fun v2 => (v2 = (nI 1) → zm_gI h a0 9 16 fun v3 => zm_pf h a0 9 16 (.int (v3 + ((nI 2) * i8))) fun h2 => zm_Go E nc ns 109 [(0, .ref a0), (1, .int i1), (2, .int i2), (3, .int i3), (4, .long l4), (6, .int i6), (7, .int (i7 + (nI 1)))] [] h2) ∧ (¬ v2 = (nI 1) → zm_Go E nc ns 187 [(0, .ref a0), (1, .int i1), (2, .int i2), (3, .int i3), (4, .long l4), (6, .int i6), (7, .int i7), (8, .int i8), (9, .int i9), (10, .long (lN 0)), (12, .int (nI 0))] [] h))) : zm_Go E nc ns 166 [(0, .ref a0), (1, .int i1), (2, .int i2), (3, .int i3), (4, .long l4), (6, .int i6), (7, .int i7), (8, .int i8), (9, .int i9)] [] h := by
  refine zm_iload C 8 rfl dX9_readBlock_166 ?_
  refine zm_bipush (v := nI 16) C (by decide) dX9_readBlock_168 ?_
  refine zm_icmp_ge (tgt := 305) C dX9_readBlock_170 (by decide) (fun z => ?_) (fun z => ?_)
  · replace w := w.1 z
    refine zm_aload_n C rfl 0 rfl dX9_readBlock_305 ?_
    refine zm_dup C rfl dX9_readBlock_306 ?_
    refine zm_getI C ff_X9_61 dX9_readBlock_307 w (fun v1 w => ?_)
    refine zm_iconst (v := nI 2) C (by decide) dX9_readBlock_310 ?_
    refine zm_iload C 7 rfl dX9_readBlock_311 ?_
    refine zm_imul C dX9_readBlock_313 ?_
    refine zm_iadd C dX9_readBlock_314 ?_
    refine zm_put C ff_X9_61 ft_X9 fp_X9_9_16 rfl rfl dX9_readBlock_315 w (fun h1 w => ?_)
    refine zm_iinc (L' := [(0, .ref a0), (1, .int i1), (2, .int i2), (3, .int i3), (4, .long l4), (6, .int i6), (7, .int (i7 + (nI 1))), (8, .int i8), (9, .int i9)]) C (by decide) 6 [1, 2, 3, 4, 5, 6, 0, 7, 8] dX9_readBlock_318 rfl rfl rfl ?_
    refine zm_goto (tgt := 109) C dX9_readBlock_321 (by decide) ?_
    exact zm_loc [0, 1, 2, 3, 4, 5, 6] rfl w
  · replace w := w.2 z
    refine zm_aload_n C rfl 0 rfl dX9_readBlock_173 ?_
    refine zm_getI C ff_X9_58 dX9_readBlock_174 w (fun v2 w => ?_)
    refine zm_iconst (v := nI 1) C (by decide) dX9_readBlock_177 ?_
    refine zm_icmp_eq (tgt := 305) C dX9_readBlock_178 (by decide) (fun z => ?_) (fun z => ?_)
    · replace w := w.1 z
      refine zm_aload_n C rfl 0 rfl dX9_readBlock_305 ?_
      refine zm_dup C rfl dX9_readBlock_306 ?_
      refine zm_getI C ff_X9_61 dX9_readBlock_307 w (fun v3 w => ?_)
      refine zm_iconst (v := nI 2) C (by decide) dX9_readBlock_310 ?_
      refine zm_iload C 7 rfl dX9_readBlock_311 ?_
      refine zm_imul C dX9_readBlock_313 ?_
      refine zm_iadd C dX9_readBlock_314 ?_
      refine zm_put C ff_X9_61 ft_X9 fp_X9_9_16 rfl rfl dX9_readBlock_315 w (fun h2 w => ?_)
      refine zm_iinc (L' := [(0, .ref a0), (1, .int i1), (2, .int i2), (3, .int i3), (4, .long l4), (6, .int i6), (7, .int (i7 + (nI 1))), (8, .int i8), (9, .int i9)]) C (by decide) 6 [1, 2, 3, 4, 5, 6, 0, 7, 8] dX9_readBlock_318 rfl rfl rfl ?_
      refine zm_goto (tgt := 109) C dX9_readBlock_321 (by decide) ?_
      exact zm_loc [0, 1, 2, 3, 4, 5, 6] rfl w
    · replace w := w.2 z
      refine zm_lconst (v := lN 0) C (by decide) dX9_readBlock_181 ?_
      refine zm_lstore (L' := [(0, .ref a0), (1, .int i1), (2, .int i2), (3, .int i3), (4, .long l4), (6, .int i6), (7, .int i7), (8, .int i8), (9, .int i9), (10, .long (lN 0))]) C (by decide) [1, 2, 3, 4, 5, 6, 7, 8, 9, 0] dX9_readBlock_182 rfl ?_
      refine zm_iconst (v := nI 0) C (by decide) dX9_readBlock_184 ?_
      refine zm_istore (L' := [(0, .ref a0), (1, .int i1), (2, .int i2), (3, .int i3), (4, .long l4), (6, .int i6), (7, .int i7), (8, .int i8), (9, .int i9), (10, .long (lN 0)), (12, .int (nI 0))]) C (by decide) [1, 2, 3, 4, 5, 6, 7, 8, 9, 10, 0] dX9_readBlock_185 rfl ?_
      exact w
set_option maxRecDepth 20000 in
theorem B_X9_readBlock_187 {E : zm_E} {K : zm_K} {Post : zm_Po} {nc ns : Nat} (C : zm_Cx E K cX9_readBlock RX9 2 25 0 0 13) (Rt : zm_Rt E Post 0 0 none) {a0 : Nat} {i1 : Int32} {i2 : Int32} {i3 : Int32} {l4 : Int64} {i6 : Int32} {i7 : Int32} {i8 : Int32} {i9 : Int32} {l10 : Int64} {i12 : Int32} {h : zm_H} (w : (i8 ≤ i12 → (i2 ≤ ((i1 + ((nI 16) * i7)) + i9) → ((lg_cmp l10 (lN 0)) = 0 → zm_Go E nc ns 166 [(0, .ref a0), (1, .int i1), (2, .int i2), (3, .int i3), (4, .long l4), (6, .int i6), (7, .int i7), (8, .int i8), (9, .int (i9 + (nI 1)))] [] h) ∧ (¬ (lg_cmp l10 (lN 0)) = 0 → zm_pf h a0 9 17 (.int (nI 5)) fun h1 => zm_Go E nc ns 166 [(0, .ref a0), (1, .int i1), (2, .int i2), (3, .int i3), (4, .long l4), (6, .int i6), (7, .int i7), (8, .int i8), (9, .int (i9 + (nI 1)))] [] h1)) ∧ (¬ i2 ≤ ((i1 + ((nI 16) * i7)) + i9) → zm_gR h a0 9 18 fun v1 => zm_gR h a0 9 18 fun v2 => zm_lL K h v2 ((i1 + ((nI 16) * i7)) + i9) fun v3 => zm_sL K h v1 (((i1 + ((nI 16) * i7)) + i9) + (nI 1)) ((v3 + l4) + l10) fun h2 => zm_Go E nc ns 166 [(0, .ref a0), (1, .int i1), (2, .int i2), (3, .int i3), (4, .long l4), (6, .int i6), (7, .int i7), (8, .int i8), (9, .int (i9 + (nI 1)))] [] h2)) ∧ (¬ i8 ≤ i12 → zm_gR h a0 9 11 fun v4 => zm_gI h a0 9 16 fun v5 => ¬ (nI 8) = 0 ∧ zm_ld K 1 h v4 (v5 + (((i8 * i9) + i12) / (nI 8))) fun v6 => ¬ (nI 8) = 0 ∧ zm_Go E nc ns 187 [(0, .ref a0), (1, .int i1), (2, .int i2), (3, .int i3), (4, .long l4), (6, .int i6), (7, .int i7), (8, .int i8), (9, .int i9), (10, .long (l10 ||| ((((v6 >>> ((((i8 * i9) + i12) - ((i8 * i9) + i12) / (nI 8) * (nI 8)) &&& 31)) &&& (nI 1)).toInt64) <<< (i12.toInt64 &&& 63)))), (12, .int (i12 + (nI 1)))] [] h)) : zm_Go E nc ns 187 [(0, .ref a0), (1, .int i1), (2, .int i2), (3, .int i3), (4, .long l4), (6, .int i6), (7, .int i7), (8, .int i8), (9, .int i9), (10, .long l10), (12, .int i12)] [] h := by
  refine zm_iload C 10 rfl dX9_readBlock_187 ?_
  refine zm_iload C 7 rfl dX9_readBlock_189 ?_
  refine zm_icmp_ge (tgt := 244) C dX9_readBlock_191 (by decide) (fun z => ?_) (fun z => ?_)
  · replace w := w.1 z
    refine zm_iload_n C rfl 1 rfl dX9_readBlock_244 ?_
    refine zm_bipush (v := nI 16) C (by decide) dX9_readBlock_245 ?_
    refine zm_iload C 6 rfl dX9_readBlock_247 ?_
    refine zm_imul C dX9_readBlock_249 ?_
    refine zm_iadd C dX9_readBlock_250 ?_
    refine zm_iload C 8 rfl dX9_readBlock_251 ?_
    refine zm_iadd C dX9_readBlock_253 ?_
    refine zm_istore (L' := [(0, .ref a0), (1, .int i1), (2, .int i2), (3, .int i3), (4, .long l4), (6, .int i6), (7, .int i7), (8, .int i8), (9, .int i9), (10, .long l10), (12, .int ((i1 + ((nI 16) * i7)) + i9))]) C (by decide) [1, 2, 3, 4, 5, 6, 7, 8, 9, 10, 0] dX9_readBlock_254 rfl ?_
    refine zm_iload C 10 rfl dX9_readBlock_256 ?_
    refine zm_iload_n C rfl 2 rfl dX9_readBlock_258 ?_
    refine zm_icmp_ge (tgt := 287) C dX9_readBlock_259 (by decide) (fun z => ?_) (fun z => ?_)
    · replace w := w.1 z
      refine zm_lload C 9 rfl dX9_readBlock_287 ?_
      refine zm_lconst (v := lN 0) C (by decide) dX9_readBlock_289 ?_
      refine zm_lcmp C dX9_readBlock_290 ?_
      refine zm_if_eq (tgt := 299) C dX9_readBlock_291 (by decide) (fun z => ?_) (fun z => ?_)
      · replace w := w.1 z
        refine zm_iinc (L' := [(0, .ref a0), (1, .int i1), (2, .int i2), (3, .int i3), (4, .long l4), (6, .int i6), (7, .int i7), (8, .int i8), (9, .int (i9 + (nI 1))), (10, .long l10), (12, .int ((i1 + ((nI 16) * i7)) + i9))]) C (by decide) 8 [1, 2, 3, 4, 5, 6, 7, 8, 0, 9, 10] dX9_readBlock_299 rfl rfl rfl ?_
        refine zm_goto (tgt := 166) C dX9_readBlock_302 (by decide) ?_
        exact zm_loc [0, 1, 2, 3, 4, 5, 6, 7, 8] rfl w
      · replace w := w.2 z
        refine zm_aload_n C rfl 0 rfl dX9_readBlock_294 ?_
        refine zm_iconst (v := nI 5) C (by decide) dX9_readBlock_295 ?_
        refine zm_put C ff_X9_58 ft_X9 fp_X9_9_17 rfl rfl dX9_readBlock_296 w (fun h1 w => ?_)
        refine zm_iinc (L' := [(0, .ref a0), (1, .int i1), (2, .int i2), (3, .int i3), (4, .long l4), (6, .int i6), (7, .int i7), (8, .int i8), (9, .int (i9 + (nI 1))), (10, .long l10), (12, .int ((i1 + ((nI 16) * i7)) + i9))]) C (by decide) 8 [1, 2, 3, 4, 5, 6, 7, 8, 0, 9, 10] dX9_readBlock_299 rfl rfl rfl ?_
        refine zm_goto (tgt := 166) C dX9_readBlock_302 (by decide) ?_
        exact zm_loc [0, 1, 2, 3, 4, 5, 6, 7, 8] rfl w
    · replace w := w.2 z
      refine zm_aload_n C rfl 0 rfl dX9_readBlock_262 ?_
      refine zm_getR C ff_X9_38 dX9_readBlock_263 w (fun v1 w => ?_)
      refine zm_iload C 10 rfl dX9_readBlock_266 ?_
      refine zm_iconst (v := nI 1) C (by decide) dX9_readBlock_268 ?_
      refine zm_iadd C dX9_readBlock_269 ?_
      refine zm_aload_n C rfl 0 rfl dX9_readBlock_270 ?_
      refine zm_getR C ff_X9_38 dX9_readBlock_271 w (fun v2 w => ?_)
      refine zm_iload C 10 rfl dX9_readBlock_274 ?_
      refine zm_ldL C dX9_readBlock_276 w (fun v3 w => ?_)
      refine zm_lload C 4 rfl dX9_readBlock_277 ?_
      refine zm_ladd C dX9_readBlock_279 ?_
      refine zm_lload C 9 rfl dX9_readBlock_280 ?_
      refine zm_ladd C dX9_readBlock_282 ?_
      refine zm_stL C dX9_readBlock_283 w (fun h2 w => ?_)
      refine zm_goto (tgt := 299) C dX9_readBlock_284 (by decide) ?_
      refine zm_iinc (L' := [(0, .ref a0), (1, .int i1), (2, .int i2), (3, .int i3), (4, .long l4), (6, .int i6), (7, .int i7), (8, .int i8), (9, .int (i9 + (nI 1))), (10, .long l10), (12, .int ((i1 + ((nI 16) * i7)) + i9))]) C (by decide) 8 [1, 2, 3, 4, 5, 6, 7, 8, 0, 9, 10] dX9_readBlock_299 rfl rfl rfl ?_
      refine zm_goto (tgt := 166) C dX9_readBlock_302 (by decide) ?_
      exact zm_loc [0, 1, 2, 3, 4, 5, 6, 7, 8] rfl w
  · replace w := w.2 z
    refine zm_lload C 9 rfl dX9_readBlock_194 ?_
    refine zm_aload_n C rfl 0 rfl dX9_readBlock_196 ?_
    refine zm_getR C ff_X9_31 dX9_readBlock_197 w (fun v4 w => ?_)
    refine zm_aload_n C rfl 0 rfl dX9_readBlock_200 ?_
    refine zm_getI C ff_X9_61 dX9_readBlock_201 w (fun v5 w => ?_)
    refine zm_iload C 7 rfl dX9_readBlock_204 ?_
    refine zm_iload C 8 rfl dX9_readBlock_206 ?_
    refine zm_imul C dX9_readBlock_208 ?_
    refine zm_iload C 10 rfl dX9_readBlock_209 ?_
    refine zm_iadd C dX9_readBlock_211 ?_
    refine zm_bipush (v := nI 8) C (by decide) dX9_readBlock_212 ?_
    refine zm_idiv C w.1 dX9_readBlock_214 ?_
    replace w := w.2
    refine zm_iadd C dX9_readBlock_215 ?_
    refine zm_ldI C dX9_readBlock_216 w (fun v6 w => ?_)
    refine zm_iload C 7 rfl dX9_readBlock_217 ?_
    refine zm_iload C 8 rfl dX9_readBlock_219 ?_
    refine zm_imul C dX9_readBlock_221 ?_
    refine zm_iload C 10 rfl dX9_readBlock_222 ?_
    refine zm_iadd C dX9_readBlock_224 ?_
    refine zm_bipush (v := nI 8) C (by decide) dX9_readBlock_225 ?_
    refine zm_irem C w.1 dX9_readBlock_227 ?_
    replace w := w.2
    refine zm_ishr C dX9_readBlock_228 ?_
    refine zm_iconst (v := nI 1) C (by decide) dX9_readBlock_229 ?_
    refine zm_iand C dX9_readBlock_230 ?_
    refine zm_i2l C dX9_readBlock_231 ?_
    refine zm_iload C 10 rfl dX9_readBlock_232 ?_
    refine zm_lshl C dX9_readBlock_234 ?_
    refine zm_lor C dX9_readBlock_235 ?_
    refine zm_lstore (L' := [(0, .ref a0), (1, .int i1), (2, .int i2), (3, .int i3), (4, .long l4), (6, .int i6), (7, .int i7), (8, .int i8), (9, .int i9), (10, .long (l10 ||| ((((v6 >>> ((((i8 * i9) + i12) - ((i8 * i9) + i12) / (nI 8) * (nI 8)) &&& 31)) &&& (nI 1)).toInt64) <<< (i12.toInt64 &&& 63)))), (12, .int i12)]) C (by decide) [1, 2, 3, 4, 5, 6, 7, 8, 9, 0, 10] dX9_readBlock_236 rfl ?_
    refine zm_iinc (L' := [(0, .ref a0), (1, .int i1), (2, .int i2), (3, .int i3), (4, .long l4), (6, .int i6), (7, .int i7), (8, .int i8), (9, .int i9), (10, .long (l10 ||| ((((v6 >>> ((((i8 * i9) + i12) - ((i8 * i9) + i12) / (nI 8) * (nI 8)) &&& 31)) &&& (nI 1)).toInt64) <<< (i12.toInt64 &&& 63)))), (12, .int (i12 + (nI 1)))]) C (by decide) 10 [1, 2, 3, 4, 5, 6, 7, 8, 9, 10, 0] dX9_readBlock_238 rfl rfl rfl ?_
    refine zm_goto (tgt := 187) C dX9_readBlock_241 (by decide) ?_
    exact w
