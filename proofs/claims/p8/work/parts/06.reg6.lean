set_option maxRecDepth 20000 in
theorem B_X9_told_0 {E : zm_E} {K : zm_K} {Post : zm_Po} {nc ns : Nat} (C : zm_Cx E K cX9_told RX9 1 0 0 0 2) (Rt : zm_Rt E Post 0 0 (some .int)) {l0 : Int64} {h : zm_H} (hnc : nc ≤ 0) (hns : ns ≤ 0) (w : (0 ≤ (lg_cmp l0 (lN 0)) → ((lg_cmp l0 (lN 255)) ≤ 0 → Post (some (.int l0.toInt32)) h) ∧ (¬ (lg_cmp l0 (lN 255)) ≤ 0 → Post (some (.int (nI 256))) h)) ∧ (¬ 0 ≤ (lg_cmp l0 (lN 0)) → Post (some (.int (-1))) h)) : zm_Go E nc ns 0 [(0, .long l0)] [] h := by
  refine zm_lload_n C rfl 0 rfl dX9_told_0 ?_
  refine zm_lconst (v := lN 0) C (by decide) dX9_told_1 ?_
  refine zm_lcmp C dX9_told_2 ?_
  refine zm_if_ge (tgt := 10) C dX9_told_3 (by decide) (fun z => ?_) (fun z => ?_)
  · replace w := w.1 z
    refine zm_lload_n C rfl 0 rfl dX9_told_10 ?_
    refine zm_ldc2 (v := lN 255) C (zm_inG (by decide +kernel) rfl) dX9_told_11 ?_
    refine zm_lcmp C dX9_told_14 ?_
    refine zm_if_le (tgt := 24) C dX9_told_15 (by decide) (fun z => ?_) (fun z => ?_)
    · replace w := w.1 z
      refine zm_lload_n C rfl 0 rfl dX9_told_24 ?_
      refine zm_l2i C dX9_told_25 ?_
      exact zm_ireturn C Rt (by show nc ≤ 0; omega) (by show ns ≤ 0; omega) rfl dX9_told_26 w
    · replace w := w.2 z
      refine zm_sipush (v := nI 256) C (by decide) dX9_told_18 ?_
      refine zm_goto (tgt := 26) C dX9_told_21 (by decide) ?_
      exact zm_ireturn C Rt (by show nc ≤ 0; omega) (by show ns ≤ 0; omega) rfl dX9_told_26 w
  · replace w := w.2 z
    refine zm_iconst (v := (-1)) C (by decide) dX9_told_6 ?_
    refine zm_goto (tgt := 26) C dX9_told_7 (by decide) ?_
    exact zm_ireturn C Rt (by show nc ≤ 0; omega) (by show ns ≤ 0; omega) rfl dX9_told_26 w
set_option maxRecDepth 20000 in
theorem B_X9_readFront_0 {E : zm_E} {K : zm_K} {Post : zm_Po} {nc ns : Nat} (C : zm_Cx E K cX9_readFront RX9 4 84 0 0 4) (Rt : zm_Rt E Post 0 0 none) {a0 : Nat} {i1 : Int32} {h : zm_H} (hnc : nc ≤ 0) (hns : ns ≤ 0) (w : zm_rc h a0 9 ∧ zm_cv K M_X9_readCode [.ref a0, .int i1] h fun h1 => zm_Go E nc ns 7 [(0, .ref a0), (1, .int i1), (2, .int (nI 0))] [] h1) : zm_Go E nc ns 0 [(0, .ref a0), (1, .int i1)] [] h := by
  refine zm_aload_n C rfl 0 rfl dX9_readFront_0 ?_
  refine zm_iload_n C rfl 1 rfl dX9_readFront_1 ?_
  obtain ⟨wr, w⟩ := w
  refine zm_Vv (As := [.int i1]) (rest := []) C M_X9_readCode sv_X9_180 rfl dX9_readFront_2 rfl (Nat.le_of_ble_eq_true rfl) (by decide) (by decide) (by show nc + 0 ≤ 0; omega) (by show ns + 0 ≤ 0; omega) wr w (fun h1 w => ?_)
  refine zm_iconst (v := nI 0) C (by decide) dX9_readFront_5 ?_
  refine zm_istore_n (L' := [(0, .ref a0), (1, .int i1), (2, .int (nI 0))]) C rfl (by decide) [1, 2, 0] dX9_readFront_6 rfl ?_
  exact w
set_option maxRecDepth 20000 in
theorem B_X9_readFront_7 {E : zm_E} {K : zm_K} {Post : zm_Po} {nc ns : Nat} (C : zm_Cx E K cX9_readFront RX9 4 84 0 0 4) (Rt : zm_Rt E Post 0 0 none) {a0 : Nat} {i1 : Int32} {i2 : Int32} {h : zm_H} (hnc : nc ≤ 0) (hns : ns ≤ 0) (w : (i1 ≤ i2 → zm_gI h a0 9 17 fun v1 => (¬ v1 = 0 → zm_Go E nc ns 54 [(0, .ref a0), (1, .int i1), (2, .int (nI 0))] [] h) ∧ (v1 = 0 → zm_rc h a0 9 ∧ zm_cv K M_X9_readCode [.ref a0, .int i1] h fun h1 => zm_Go E nc ns 54 [(0, .ref a0), (1, .int i1), (2, .int (nI 0))] [] h1)) ∧ (¬ i1 ≤ i2 → zm_gI h a0 9 17 fun v2 => (¬ v2 = 0 → zm_gI h a0 9 17 fun v3 => (¬ v3 = 0 → zm_Go E nc ns 54 [(0, .ref a0), (1, .int i1), (2, .int (nI 0))] [] h) ∧ (v3 = 0 → zm_rc h a0 9 ∧ zm_cv K M_X9_readCode [.ref a0, .int i1] h fun h2 => zm_Go E nc ns 54 [(0, .ref a0), (1, .int i1), (2, .int (nI 0))] [] h2)) ∧ (v2 = 0 → zm_gR h a0 9 21 fun v4 => zm_gR h a0 9 18 fun v5 => zm_lL K h v5 i2 fun v6 => zm_ci K M_X9_told [.long v6] h fun v7 h3 => zm_sI K h3 v4 i2 v7 fun h4 => zm_Go E nc ns 7 [(0, .ref a0), (1, .int i1), (2, .int (i2 + (nI 1)))] [] h4))) : zm_Go E nc ns 7 [(0, .ref a0), (1, .int i1), (2, .int i2)] [] h := by
  refine zm_iload_n C rfl 2 rfl dX9_readFront_7 ?_
  refine zm_iload_n C rfl 1 rfl dX9_readFront_8 ?_
  refine zm_icmp_ge (tgt := 40) C dX9_readFront_9 (by decide) (fun z => ?_) (fun z => ?_)
  · replace w := w.1 z
    refine zm_aload_n C rfl 0 rfl dX9_readFront_40 ?_
    refine zm_getI C ff_X9_58 dX9_readFront_41 w (fun v1 w => ?_)
    refine zm_if_ne (tgt := 52) C dX9_readFront_44 (by decide) (fun z => ?_) (fun z => ?_)
    · replace w := w.1 z
      refine zm_iconst (v := nI 0) C (by decide) dX9_readFront_52 ?_
      refine zm_istore_n (L' := [(0, .ref a0), (1, .int i1), (2, .int (nI 0))]) C rfl (by decide) [1, 2, 0] dX9_readFront_53 rfl ?_
      exact w
    · replace w := w.2 z
      refine zm_aload_n C rfl 0 rfl dX9_readFront_47 ?_
      refine zm_iload_n C rfl 1 rfl dX9_readFront_48 ?_
      obtain ⟨wr, w⟩ := w
      refine zm_Vv (As := [.int i1]) (rest := []) C M_X9_readCode sv_X9_180 rfl dX9_readFront_49 rfl (Nat.le_of_ble_eq_true rfl) (by decide) (by decide) (by show nc + 0 ≤ 0; omega) (by show ns + 0 ≤ 0; omega) wr w (fun h1 w => ?_)
      refine zm_iconst (v := nI 0) C (by decide) dX9_readFront_52 ?_
      refine zm_istore_n (L' := [(0, .ref a0), (1, .int i1), (2, .int (nI 0))]) C rfl (by decide) [1, 2, 0] dX9_readFront_53 rfl ?_
      exact w
  · replace w := w.2 z
    refine zm_aload_n C rfl 0 rfl dX9_readFront_12 ?_
    refine zm_getI C ff_X9_58 dX9_readFront_13 w (fun v2 w => ?_)
    refine zm_if_ne (tgt := 40) C dX9_readFront_16 (by decide) (fun z => ?_) (fun z => ?_)
    · replace w := w.1 z
      refine zm_aload_n C rfl 0 rfl dX9_readFront_40 ?_
      refine zm_getI C ff_X9_58 dX9_readFront_41 w (fun v3 w => ?_)
      refine zm_if_ne (tgt := 52) C dX9_readFront_44 (by decide) (fun z => ?_) (fun z => ?_)
      · replace w := w.1 z
        refine zm_iconst (v := nI 0) C (by decide) dX9_readFront_52 ?_
        refine zm_istore_n (L' := [(0, .ref a0), (1, .int i1), (2, .int (nI 0))]) C rfl (by decide) [1, 2, 0] dX9_readFront_53 rfl ?_
        exact w
      · replace w := w.2 z
        refine zm_aload_n C rfl 0 rfl dX9_readFront_47 ?_
        refine zm_iload_n C rfl 1 rfl dX9_readFront_48 ?_
        obtain ⟨wr, w⟩ := w
        refine zm_Vv (As := [.int i1]) (rest := []) C M_X9_readCode sv_X9_180 rfl dX9_readFront_49 rfl (Nat.le_of_ble_eq_true rfl) (by decide) (by decide) (by show nc + 0 ≤ 0; omega) (by show ns + 0 ≤ 0; omega) wr w (fun h2 w => ?_)
        refine zm_iconst (v := nI 0) C (by decide) dX9_readFront_52 ?_
        refine zm_istore_n (L' := [(0, .ref a0), (1, .int i1), (2, .int (nI 0))]) C rfl (by decide) [1, 2, 0] dX9_readFront_53 rfl ?_
        exact w
    · replace w := w.2 z
      refine zm_aload_n C rfl 0 rfl dX9_readFront_19 ?_
      refine zm_getR C ff_X9_45 dX9_readFront_20 w (fun v4 w => ?_)
      refine zm_iload_n C rfl 2 rfl dX9_readFront_23 ?_
      refine zm_aload_n C rfl 0 rfl dX9_readFront_24 ?_
      refine zm_getR C ff_X9_38 dX9_readFront_25 w (fun v5 w => ?_)
      refine zm_iload_n C rfl 2 rfl dX9_readFront_28 ?_
      refine zm_ldL C dX9_readFront_29 w (fun v6 w => ?_)
      refine zm_Si (As := [.long v6]) (rest := [.int i2, .ref v4]) C M_X9_told ss_X9_183 rfl dX9_readFront_30 rfl (Nat.le_of_ble_eq_true rfl) (by decide) (by decide) (by show nc + 0 ≤ 0; omega) (by show ns + 0 ≤ 0; omega) w (fun v7 h3 w => ?_)
      refine zm_stI C dX9_readFront_33 w (fun h4 w => ?_)
      refine zm_iinc (L' := [(0, .ref a0), (1, .int i1), (2, .int (i2 + (nI 1)))]) C (by decide) 2 [1, 2, 0] dX9_readFront_34 rfl rfl rfl ?_
      refine zm_goto (tgt := 7) C dX9_readFront_37 (by decide) ?_
      exact w
set_option maxRecDepth 20000 in
theorem B_X9_readFront_54 {E : zm_E} {K : zm_K} {Post : zm_Po} {nc ns : Nat} (C : zm_Cx E K cX9_readFront RX9 4 84 0 0 4) (Rt : zm_Rt E Post 0 0 none) {a0 : Nat} {i1 : Int32} {i2 : Int32} {h : zm_H} (hnc : nc ≤ 0) (hns : ns ≤ 0) (w : (i1 ≤ i2 → zm_Go E nc ns 89 [(0, .ref a0), (1, .int i1), (2, .int (nI 0))] [] h) ∧ (¬ i1 ≤ i2 → zm_gI h a0 9 17 fun v1 => (¬ v1 = 0 → zm_Go E nc ns 89 [(0, .ref a0), (1, .int i1), (2, .int (nI 0))] [] h) ∧ (v1 = 0 → zm_gR h a0 9 22 fun v2 => zm_gR h a0 9 18 fun v3 => zm_lL K h v3 i2 fun v4 => zm_ci K M_X9_told [.long v4] h fun v5 h1 => zm_sI K h1 v2 i2 v5 fun h2 => zm_Go E nc ns 54 [(0, .ref a0), (1, .int i1), (2, .int (i2 + (nI 1)))] [] h2))) : zm_Go E nc ns 54 [(0, .ref a0), (1, .int i1), (2, .int i2)] [] h := by
  refine zm_iload_n C rfl 2 rfl dX9_readFront_54 ?_
  refine zm_iload_n C rfl 1 rfl dX9_readFront_55 ?_
  refine zm_icmp_ge (tgt := 87) C dX9_readFront_56 (by decide) (fun z => ?_) (fun z => ?_)
  · replace w := w.1 z
    refine zm_iconst (v := nI 0) C (by decide) dX9_readFront_87 ?_
    refine zm_istore_n (L' := [(0, .ref a0), (1, .int i1), (2, .int (nI 0))]) C rfl (by decide) [1, 2, 0] dX9_readFront_88 rfl ?_
    exact w
  · replace w := w.2 z
    refine zm_aload_n C rfl 0 rfl dX9_readFront_59 ?_
    refine zm_getI C ff_X9_58 dX9_readFront_60 w (fun v1 w => ?_)
    refine zm_if_ne (tgt := 87) C dX9_readFront_63 (by decide) (fun z => ?_) (fun z => ?_)
    · replace w := w.1 z
      refine zm_iconst (v := nI 0) C (by decide) dX9_readFront_87 ?_
      refine zm_istore_n (L' := [(0, .ref a0), (1, .int i1), (2, .int (nI 0))]) C rfl (by decide) [1, 2, 0] dX9_readFront_88 rfl ?_
      exact w
    · replace w := w.2 z
      refine zm_aload_n C rfl 0 rfl dX9_readFront_66 ?_
      refine zm_getR C ff_X9_48 dX9_readFront_67 w (fun v2 w => ?_)
      refine zm_iload_n C rfl 2 rfl dX9_readFront_70 ?_
      refine zm_aload_n C rfl 0 rfl dX9_readFront_71 ?_
      refine zm_getR C ff_X9_38 dX9_readFront_72 w (fun v3 w => ?_)
      refine zm_iload_n C rfl 2 rfl dX9_readFront_75 ?_
      refine zm_ldL C dX9_readFront_76 w (fun v4 w => ?_)
      refine zm_Si (As := [.long v4]) (rest := [.int i2, .ref v2]) C M_X9_told ss_X9_183 rfl dX9_readFront_77 rfl (Nat.le_of_ble_eq_true rfl) (by decide) (by decide) (by show nc + 0 ≤ 0; omega) (by show ns + 0 ≤ 0; omega) w (fun v5 h1 w => ?_)
      refine zm_stI C dX9_readFront_80 w (fun h2 w => ?_)
      refine zm_iinc (L' := [(0, .ref a0), (1, .int i1), (2, .int (i2 + (nI 1)))]) C (by decide) 2 [1, 2, 0] dX9_readFront_81 rfl rfl rfl ?_
      refine zm_goto (tgt := 54) C dX9_readFront_84 (by decide) ?_
      exact w
set_option maxRecDepth 20000 in
theorem B_X9_readFront_89 {E : zm_E} {K : zm_K} {Post : zm_Po} {nc ns : Nat} (C : zm_Cx E K cX9_readFront RX9 4 84 0 0 4) (Rt : zm_Rt E Post 0 0 none) {a0 : Nat} {i1 : Int32} {i2 : Int32} {h : zm_H} (hnc : nc ≤ 0) (hns : ns ≤ 0) (w : (i1 ≤ i2 → Post none h) ∧ (¬ i1 ≤ i2 → zm_gI h a0 9 17 fun v1 => (¬ v1 = 0 → Post none h) ∧ (v1 = 0 → (¬ i2 = 0 → zm_gR h a0 9 2 fun v2 => zm_ld K 1 h v2 i2 fun v3 => zm_gR h a0 9 2 fun v4 => zm_ld K 1 h v4 (i2 - (nI 1)) fun v5 => zm_gR h a0 9 21 fun v6 => zm_ld K 1 h v6 i2 fun v7 => (v7 < 0 → zm_pf h a0 9 17 (.int (nI 7)) fun h1 => zm_Go E nc ns 89 [(0, .ref a0), (1, .int i1), (2, .int (i2 + (nI 1)))] [] h1) ∧ (¬ v7 < 0 → zm_gR h a0 9 22 fun v8 => zm_ld K 1 h v8 i2 fun v9 => (v9 < 0 → zm_pf h a0 9 17 (.int (nI 7)) fun h2 => zm_Go E nc ns 89 [(0, .ref a0), (1, .int i1), (2, .int (i2 + (nI 1)))] [] h2) ∧ (¬ v9 < 0 → zm_gR h a0 9 21 fun v10 => zm_ld K 1 h v10 i2 fun v11 => zm_gR h a0 9 22 fun v12 => zm_ld K 1 h v12 i2 fun v13 => ((nI 255) < (v11 + v13) → zm_pf h a0 9 17 (.int (nI 7)) fun h3 => zm_Go E nc ns 89 [(0, .ref a0), (1, .int i1), (2, .int (i2 + (nI 1)))] [] h3) ∧ (¬ (nI 255) < (v11 + v13) → zm_gR h a0 9 21 fun v14 => zm_ld K 1 h v14 i2 fun v15 => (v15 ≤ (v3 - v5) → zm_gR h a0 9 22 fun v16 => zm_ld K 1 h v16 i2 fun v17 => zm_gR h a0 9 21 fun v18 => zm_ld K 1 h v18 i2 fun v19 => zm_rc h a0 9 ∧ zm_cv K M_X9_take [.ref a0, .int v17, .int v19] h fun h4 => zm_Go E nc ns 89 [(0, .ref a0), (1, .int i1), (2, .int (i2 + (nI 1)))] [] h4) ∧ (¬ v15 ≤ (v3 - v5) → zm_pf h a0 9 17 (.int (nI 7)) fun h5 => zm_Go E nc ns 89 [(0, .ref a0), (1, .int i1), (2, .int (i2 + (nI 1)))] [] h5))))) ∧ (i2 = 0 → zm_gR h a0 9 21 fun v20 => zm_ld K 1 h v20 i2 fun v21 => (v21 < 0 → zm_pf h a0 9 17 (.int (nI 7)) fun h6 => zm_Go E nc ns 89 [(0, .ref a0), (1, .int i1), (2, .int (i2 + (nI 1)))] [] h6) ∧ (¬ v21 < 0 → zm_gR h a0 9 22 fun v22 => zm_ld K 1 h v22 i2 fun v23 => (v23 < 0 → zm_pf h a0 9 17 (.int (nI 7)) fun h7 => zm_Go E nc ns 89 [(0, .ref a0), (1, .int i1), (2, .int (i2 + (nI 1)))] [] h7) ∧ (¬ v23 < 0 → zm_gR h a0 9 21 fun v24 => zm_ld K 1 h v24 i2 fun v25 => zm_gR h a0 9 22 fun v26 => zm_ld K 1 h v26 i2 fun v27 => ((nI 255) < (v25 + v27) → zm_pf h a0 9 17 (.int (nI 7)) fun h8 => zm_Go E nc ns 89 [(0, .ref a0), (1, .int i1), (2, .int (i2 + (nI 1)))] [] h8) ∧ (¬ (nI 255) < (v25 + v27) → zm_gR h a0 9 21 fun v28 => zm_ld K 1 h v28 i2 fun v29 => (v29 ≤ (nI 0) → zm_gR h a0 9 22 fun v30 => zm_ld K 1 h v30 i2 fun v31 => zm_gR h a0 9 21 fun v32 => zm_ld K 1 h v32 i2 fun v33 => zm_rc h a0 9 ∧ zm_cv K M_X9_take [.ref a0, .int v31, .int v33] h fun h9 => zm_Go E nc ns 89 [(0, .ref a0), (1, .int i1), (2, .int (i2 + (nI 1)))] [] h9) ∧ (¬ v29 ≤ (nI 0) → zm_pf h a0 9 17 (.int (nI 7)) fun h10 => zm_Go E nc ns 89 [(0, .ref a0), (1, .int i1), (2, .int (i2 + (nI 1)))] [] h10)))))))) : zm_Go E nc ns 89 [(0, .ref a0), (1, .int i1), (2, .int i2)] [] h := by
  refine zm_iload_n C rfl 2 rfl dX9_readFront_89 ?_
  refine zm_iload_n C rfl 1 rfl dX9_readFront_90 ?_
  refine zm_icmp_ge (tgt := 203) C dX9_readFront_91 (by decide) (fun z => ?_) (fun z => ?_)
  · replace w := w.1 z
    exact zm_return C Rt (by show nc ≤ 0; omega) (by show ns ≤ 0; omega) dX9_readFront_203 w
  · replace w := w.2 z
    refine zm_aload_n C rfl 0 rfl dX9_readFront_94 ?_
    refine zm_getI C ff_X9_58 dX9_readFront_95 w (fun v1 w => ?_)
    refine zm_if_ne (tgt := 203) C dX9_readFront_98 (by decide) (fun z => ?_) (fun z => ?_)
    · replace w := w.1 z
      exact zm_return C Rt (by show nc ≤ 0; omega) (by show ns ≤ 0; omega) dX9_readFront_203 w
    · replace w := w.2 z
      refine zm_iload_n C rfl 2 rfl dX9_readFront_101 ?_
      refine zm_if_ne (tgt := 109) C dX9_readFront_102 (by decide) (fun z => ?_) (fun z => ?_)
      · replace w := w.1 z
        refine zm_aload_n C rfl 0 rfl dX9_readFront_109 ?_
        refine zm_getR C ff_X9_13 dX9_readFront_110 w (fun v2 w => ?_)
        refine zm_iload_n C rfl 2 rfl dX9_readFront_113 ?_
        refine zm_ldI C dX9_readFront_114 w (fun v3 w => ?_)
        refine zm_aload_n C rfl 0 rfl dX9_readFront_115 ?_
        refine zm_getR C ff_X9_13 dX9_readFront_116 w (fun v4 w => ?_)
        refine zm_iload_n C rfl 2 rfl dX9_readFront_119 ?_
        refine zm_iconst (v := nI 1) C (by decide) dX9_readFront_120 ?_
        refine zm_isub C dX9_readFront_121 ?_
        refine zm_ldI C dX9_readFront_122 w (fun v5 w => ?_)
        refine zm_isub C dX9_readFront_123 ?_
        refine zm_istore_n (L' := [(0, .ref a0), (1, .int i1), (2, .int i2), (3, .int (v3 - v5))]) C rfl (by decide) [1, 2, 3, 0] dX9_readFront_124 rfl ?_
        refine zm_aload_n C rfl 0 rfl dX9_readFront_125 ?_
        refine zm_getR C ff_X9_45 dX9_readFront_126 w (fun v6 w => ?_)
        refine zm_iload_n C rfl 2 rfl dX9_readFront_129 ?_
        refine zm_ldI C dX9_readFront_130 w (fun v7 w => ?_)
        refine zm_if_lt (tgt := 172) C dX9_readFront_131 (by decide) (fun z => ?_) (fun z => ?_)
        · replace w := w.1 z
          refine zm_aload_n C rfl 0 rfl dX9_readFront_172 ?_
          refine zm_bipush (v := nI 7) C (by decide) dX9_readFront_173 ?_
          refine zm_put C ff_X9_58 ft_X9 fp_X9_9_17 rfl rfl dX9_readFront_175 w (fun h1 w => ?_)
          refine zm_goto (tgt := 197) C dX9_readFront_178 (by decide) ?_
          refine zm_iinc (L' := [(0, .ref a0), (1, .int i1), (2, .int (i2 + (nI 1))), (3, .int (v3 - v5))]) C (by decide) 2 [1, 2, 0, 3] dX9_readFront_197 rfl rfl rfl ?_
          refine zm_goto (tgt := 89) C dX9_readFront_200 (by decide) ?_
          exact zm_loc [0, 1, 2] rfl w
        · replace w := w.2 z
          refine zm_aload_n C rfl 0 rfl dX9_readFront_134 ?_
          refine zm_getR C ff_X9_48 dX9_readFront_135 w (fun v8 w => ?_)
          refine zm_iload_n C rfl 2 rfl dX9_readFront_138 ?_
          refine zm_ldI C dX9_readFront_139 w (fun v9 w => ?_)
          refine zm_if_lt (tgt := 172) C dX9_readFront_140 (by decide) (fun z => ?_) (fun z => ?_)
          · replace w := w.1 z
            refine zm_aload_n C rfl 0 rfl dX9_readFront_172 ?_
            refine zm_bipush (v := nI 7) C (by decide) dX9_readFront_173 ?_
            refine zm_put C ff_X9_58 ft_X9 fp_X9_9_17 rfl rfl dX9_readFront_175 w (fun h2 w => ?_)
            refine zm_goto (tgt := 197) C dX9_readFront_178 (by decide) ?_
            refine zm_iinc (L' := [(0, .ref a0), (1, .int i1), (2, .int (i2 + (nI 1))), (3, .int (v3 - v5))]) C (by decide) 2 [1, 2, 0, 3] dX9_readFront_197 rfl rfl rfl ?_
            refine zm_goto (tgt := 89) C dX9_readFront_200 (by decide) ?_
            exact zm_loc [0, 1, 2] rfl w
          · replace w := w.2 z
            refine zm_aload_n C rfl 0 rfl dX9_readFront_143 ?_
            refine zm_getR C ff_X9_45 dX9_readFront_144 w (fun v10 w => ?_)
            refine zm_iload_n C rfl 2 rfl dX9_readFront_147 ?_
            refine zm_ldI C dX9_readFront_148 w (fun v11 w => ?_)
            refine zm_aload_n C rfl 0 rfl dX9_readFront_149 ?_
            refine zm_getR C ff_X9_48 dX9_readFront_150 w (fun v12 w => ?_)
            refine zm_iload_n C rfl 2 rfl dX9_readFront_153 ?_
            refine zm_ldI C dX9_readFront_154 w (fun v13 w => ?_)
            refine zm_iadd C dX9_readFront_155 ?_
            refine zm_sipush (v := nI 255) C (by decide) dX9_readFront_156 ?_
            refine zm_icmp_gt (tgt := 172) C dX9_readFront_159 (by decide) (fun z => ?_) (fun z => ?_)
            · replace w := w.1 z
              refine zm_aload_n C rfl 0 rfl dX9_readFront_172 ?_
              refine zm_bipush (v := nI 7) C (by decide) dX9_readFront_173 ?_
              refine zm_put C ff_X9_58 ft_X9 fp_X9_9_17 rfl rfl dX9_readFront_175 w (fun h3 w => ?_)
              refine zm_goto (tgt := 197) C dX9_readFront_178 (by decide) ?_
              refine zm_iinc (L' := [(0, .ref a0), (1, .int i1), (2, .int (i2 + (nI 1))), (3, .int (v3 - v5))]) C (by decide) 2 [1, 2, 0, 3] dX9_readFront_197 rfl rfl rfl ?_
              refine zm_goto (tgt := 89) C dX9_readFront_200 (by decide) ?_
              exact zm_loc [0, 1, 2] rfl w
            · replace w := w.2 z
              refine zm_aload_n C rfl 0 rfl dX9_readFront_162 ?_
              refine zm_getR C ff_X9_45 dX9_readFront_163 w (fun v14 w => ?_)
              refine zm_iload_n C rfl 2 rfl dX9_readFront_166 ?_
              refine zm_ldI C dX9_readFront_167 w (fun v15 w => ?_)
              refine zm_iload_n C rfl 3 rfl dX9_readFront_168 ?_
              refine zm_icmp_le (tgt := 181) C dX9_readFront_169 (by decide) (fun z => ?_) (fun z => ?_)
              · replace w := w.1 z
                refine zm_aload_n C rfl 0 rfl dX9_readFront_181 ?_
                refine zm_aload_n C rfl 0 rfl dX9_readFront_182 ?_
                refine zm_getR C ff_X9_48 dX9_readFront_183 w (fun v16 w => ?_)
                refine zm_iload_n C rfl 2 rfl dX9_readFront_186 ?_
                refine zm_ldI C dX9_readFront_187 w (fun v17 w => ?_)
                refine zm_aload_n C rfl 0 rfl dX9_readFront_188 ?_
                refine zm_getR C ff_X9_45 dX9_readFront_189 w (fun v18 w => ?_)
                refine zm_iload_n C rfl 2 rfl dX9_readFront_192 ?_
                refine zm_ldI C dX9_readFront_193 w (fun v19 w => ?_)
                obtain ⟨wr, w⟩ := w
                refine zm_Vv (As := [.int v17, .int v19]) (rest := []) C M_X9_take sv_X9_176 rfl dX9_readFront_194 rfl (Nat.le_of_ble_eq_true rfl) (by decide) (by decide) (by show nc + 0 ≤ 0; omega) (by show ns + 0 ≤ 0; omega) wr w (fun h4 w => ?_)
                refine zm_iinc (L' := [(0, .ref a0), (1, .int i1), (2, .int (i2 + (nI 1))), (3, .int (v3 - v5))]) C (by decide) 2 [1, 2, 0, 3] dX9_readFront_197 rfl rfl rfl ?_
                refine zm_goto (tgt := 89) C dX9_readFront_200 (by decide) ?_
                exact zm_loc [0, 1, 2] rfl w
              · replace w := w.2 z
                refine zm_aload_n C rfl 0 rfl dX9_readFront_172 ?_
                refine zm_bipush (v := nI 7) C (by decide) dX9_readFront_173 ?_
                refine zm_put C ff_X9_58 ft_X9 fp_X9_9_17 rfl rfl dX9_readFront_175 w (fun h5 w => ?_)
                refine zm_goto (tgt := 197) C dX9_readFront_178 (by decide) ?_
                refine zm_iinc (L' := [(0, .ref a0), (1, .int i1), (2, .int (i2 + (nI 1))), (3, .int (v3 - v5))]) C (by decide) 2 [1, 2, 0, 3] dX9_readFront_197 rfl rfl rfl ?_
                refine zm_goto (tgt := 89) C dX9_readFront_200 (by decide) ?_
                exact zm_loc [0, 1, 2] rfl w
      · replace w := w.2 z
        refine zm_iconst (v := nI 0) C (by decide) dX9_readFront_105 ?_
        refine zm_goto (tgt := 124) C dX9_readFront_106 (by decide) ?_
        refine zm_istore_n (L' := [(0, .ref a0), (1, .int i1), (2, .int i2), (3, .int (nI 0))]) C rfl (by decide) [1, 2, 3, 0] dX9_readFront_124 rfl ?_
        refine zm_aload_n C rfl 0 rfl dX9_readFront_125 ?_
        refine zm_getR C ff_X9_45 dX9_readFront_126 w (fun v20 w => ?_)
        refine zm_iload_n C rfl 2 rfl dX9_readFront_129 ?_
        refine zm_ldI C dX9_readFront_130 w (fun v21 w => ?_)
        refine zm_if_lt (tgt := 172) C dX9_readFront_131 (by decide) (fun z => ?_) (fun z => ?_)
        · replace w := w.1 z
          refine zm_aload_n C rfl 0 rfl dX9_readFront_172 ?_
          refine zm_bipush (v := nI 7) C (by decide) dX9_readFront_173 ?_
          refine zm_put C ff_X9_58 ft_X9 fp_X9_9_17 rfl rfl dX9_readFront_175 w (fun h6 w => ?_)
          refine zm_goto (tgt := 197) C dX9_readFront_178 (by decide) ?_
          refine zm_iinc (L' := [(0, .ref a0), (1, .int i1), (2, .int (i2 + (nI 1))), (3, .int (nI 0))]) C (by decide) 2 [1, 2, 0, 3] dX9_readFront_197 rfl rfl rfl ?_
          refine zm_goto (tgt := 89) C dX9_readFront_200 (by decide) ?_
          exact zm_loc [0, 1, 2] rfl w
        · replace w := w.2 z
          refine zm_aload_n C rfl 0 rfl dX9_readFront_134 ?_
          refine zm_getR C ff_X9_48 dX9_readFront_135 w (fun v22 w => ?_)
          refine zm_iload_n C rfl 2 rfl dX9_readFront_138 ?_
          refine zm_ldI C dX9_readFront_139 w (fun v23 w => ?_)
          refine zm_if_lt (tgt := 172) C dX9_readFront_140 (by decide) (fun z => ?_) (fun z => ?_)
          · replace w := w.1 z
            refine zm_aload_n C rfl 0 rfl dX9_readFront_172 ?_
            refine zm_bipush (v := nI 7) C (by decide) dX9_readFront_173 ?_
            refine zm_put C ff_X9_58 ft_X9 fp_X9_9_17 rfl rfl dX9_readFront_175 w (fun h7 w => ?_)
            refine zm_goto (tgt := 197) C dX9_readFront_178 (by decide) ?_
            refine zm_iinc (L' := [(0, .ref a0), (1, .int i1), (2, .int (i2 + (nI 1))), (3, .int (nI 0))]) C (by decide) 2 [1, 2, 0, 3] dX9_readFront_197 rfl rfl rfl ?_
            refine zm_goto (tgt := 89) C dX9_readFront_200 (by decide) ?_
            exact zm_loc [0, 1, 2] rfl w
          · replace w := w.2 z
            refine zm_aload_n C rfl 0 rfl dX9_readFront_143 ?_
            refine zm_getR C ff_X9_45 dX9_readFront_144 w (fun v24 w => ?_)
            refine zm_iload_n C rfl 2 rfl dX9_readFront_147 ?_
            refine zm_ldI C dX9_readFront_148 w (fun v25 w => ?_)
            refine zm_aload_n C rfl 0 rfl dX9_readFront_149 ?_
            refine zm_getR C ff_X9_48 dX9_readFront_150 w (fun v26 w => ?_)
            refine zm_iload_n C rfl 2 rfl dX9_readFront_153 ?_
            refine zm_ldI C dX9_readFront_154 w (fun v27 w => ?_)
            refine zm_iadd C dX9_readFront_155 ?_
            refine zm_sipush (v := nI 255) C (by decide) dX9_readFront_156 ?_
            refine zm_icmp_gt (tgt := 172) C dX9_readFront_159 (by decide) (fun z => ?_) (fun z => ?_)
            · replace w := w.1 z
              refine zm_aload_n C rfl 0 rfl dX9_readFront_172 ?_
              refine zm_bipush (v := nI 7) C (by decide) dX9_readFront_173 ?_
              refine zm_put C ff_X9_58 ft_X9 fp_X9_9_17 rfl rfl dX9_readFront_175 w (fun h8 w => ?_)
              refine zm_goto (tgt := 197) C dX9_readFront_178 (by decide) ?_
              refine zm_iinc (L' := [(0, .ref a0), (1, .int i1), (2, .int (i2 + (nI 1))), (3, .int (nI 0))]) C (by decide) 2 [1, 2, 0, 3] dX9_readFront_197 rfl rfl rfl ?_
              refine zm_goto (tgt := 89) C dX9_readFront_200 (by decide) ?_
              exact zm_loc [0, 1, 2] rfl w
            · replace w := w.2 z
              refine zm_aload_n C rfl 0 rfl dX9_readFront_162 ?_
              refine zm_getR C ff_X9_45 dX9_readFront_163 w (fun v28 w => ?_)
              refine zm_iload_n C rfl 2 rfl dX9_readFront_166 ?_
              refine zm_ldI C dX9_readFront_167 w (fun v29 w => ?_)
              refine zm_iload_n C rfl 3 rfl dX9_readFront_168 ?_
              refine zm_icmp_le (tgt := 181) C dX9_readFront_169 (by decide) (fun z => ?_) (fun z => ?_)
              · replace w := w.1 z
                refine zm_aload_n C rfl 0 rfl dX9_readFront_181 ?_
                refine zm_aload_n C rfl 0 rfl dX9_readFront_182 ?_
                refine zm_getR C ff_X9_48 dX9_readFront_183 w (fun v30 w => ?_)
                refine zm_iload_n C rfl 2 rfl dX9_readFront_186 ?_
                refine zm_ldI C dX9_readFront_187 w (fun v31 w => ?_)
                refine zm_aload_n C rfl 0 rfl dX9_readFront_188 ?_
                refine zm_getR C ff_X9_45 dX9_readFront_189 w (fun v32 w => ?_)
                refine zm_iload_n C rfl 2 rfl dX9_readFront_192 ?_
                refine zm_ldI C dX9_readFront_193 w (fun v33 w => ?_)
                obtain ⟨wr, w⟩ := w
                refine zm_Vv (As := [.int v31, .int v33]) (rest := []) C M_X9_take sv_X9_176 rfl dX9_readFront_194 rfl (Nat.le_of_ble_eq_true rfl) (by decide) (by decide) (by show nc + 0 ≤ 0; omega) (by show ns + 0 ≤ 0; omega) wr w (fun h9 w => ?_)
                refine zm_iinc (L' := [(0, .ref a0), (1, .int i1), (2, .int (i2 + (nI 1))), (3, .int (nI 0))]) C (by decide) 2 [1, 2, 0, 3] dX9_readFront_197 rfl rfl rfl ?_
                refine zm_goto (tgt := 89) C dX9_readFront_200 (by decide) ?_
                exact zm_loc [0, 1, 2] rfl w
              · replace w := w.2 z
                refine zm_aload_n C rfl 0 rfl dX9_readFront_172 ?_
                refine zm_bipush (v := nI 7) C (by decide) dX9_readFront_173 ?_
                refine zm_put C ff_X9_58 ft_X9 fp_X9_9_17 rfl rfl dX9_readFront_175 w (fun h10 w => ?_)
                refine zm_goto (tgt := 197) C dX9_readFront_178 (by decide) ?_
                refine zm_iinc (L' := [(0, .ref a0), (1, .int i1), (2, .int (i2 + (nI 1))), (3, .int (nI 0))]) C (by decide) 2 [1, 2, 0, 3] dX9_readFront_197 rfl rfl rfl ?_
                refine zm_goto (tgt := 89) C dX9_readFront_200 (by decide) ?_
                exact zm_loc [0, 1, 2] rfl w
set_option maxRecDepth 20000 in
theorem B_X9_readDictionary_0 {E : zm_E} {K : zm_K} {Post : zm_Po} {nc ns : Nat} (C : zm_Cx E K cX9_readDictionary RX9 4 84 0 0 10) (Rt : zm_Rt E Post 0 0 none) {a0 : Nat} {i1 : Int32} {h : zm_H} (hnc : nc ≤ 0) (hns : ns ≤ 0) (w : zm_gI h a0 9 14 fun v1 => zm_rc h a0 9 ∧ zm_cl K M_X9_varint [.ref a0, .int v1] h fun v2 h1 => zm_gI h1 a0 9 17 fun v3 => (¬ v3 = 0 → zm_gI h1 a0 9 17 fun v4 => (v4 = 0 → zm_rc h1 a0 9 ∧ zm_cv K M_X9_readPlain [.ref a0, .int v2.toInt32] h1 fun h2 => zm_gI h2 a0 9 17 fun v5 => (v5 = 0 → zm_gI h2 a0 9 8 fun v6 => zm_pf h2 a0 9 9 (.int v6) fun h3 => zm_Go E nc ns 67 [(0, .ref a0), (1, .int i1), (4, .int (nI 0))] [] h3) ∧ (¬ v5 = 0 → Post none h2)) ∧ (¬ v4 = 0 → Post none h1)) ∧ (v3 = 0 → ((lg_cmp v2 (lN 0)) < 0 → zm_pf h1 a0 9 17 (.int (nI 4)) fun h4 => zm_gI h4 a0 9 17 fun v7 => (v7 = 0 → zm_rc h4 a0 9 ∧ zm_cv K M_X9_readPlain [.ref a0, .int v2.toInt32] h4 fun h5 => zm_gI h5 a0 9 17 fun v8 => (v8 = 0 → zm_gI h5 a0 9 8 fun v9 => zm_pf h5 a0 9 9 (.int v9) fun h6 => zm_Go E nc ns 67 [(0, .ref a0), (1, .int i1), (4, .int (nI 0))] [] h6) ∧ (¬ v8 = 0 → Post none h5)) ∧ (¬ v7 = 0 → Post none h4)) ∧ (¬ (lg_cmp v2 (lN 0)) < 0 → ((lg_cmp v2 i1.toInt64) ≤ 0 → zm_gI h1 a0 9 17 fun v10 => (v10 = 0 → zm_rc h1 a0 9 ∧ zm_cv K M_X9_readPlain [.ref a0, .int v2.toInt32] h1 fun h7 => zm_gI h7 a0 9 17 fun v11 => (v11 = 0 → zm_gI h7 a0 9 8 fun v12 => zm_pf h7 a0 9 9 (.int v12) fun h8 => zm_Go E nc ns 67 [(0, .ref a0), (1, .int i1), (4, .int (nI 0))] [] h8) ∧ (¬ v11 = 0 → Post none h7)) ∧ (¬ v10 = 0 → Post none h1)) ∧ (¬ (lg_cmp v2 i1.toInt64) ≤ 0 → zm_pf h1 a0 9 17 (.int (nI 4)) fun h9 => zm_gI h9 a0 9 17 fun v13 => (v13 = 0 → zm_rc h9 a0 9 ∧ zm_cv K M_X9_readPlain [.ref a0, .int v2.toInt32] h9 fun h10 => zm_gI h10 a0 9 17 fun v14 => (v14 = 0 → zm_gI h10 a0 9 8 fun v15 => zm_pf h10 a0 9 9 (.int v15) fun h11 => zm_Go E nc ns 67 [(0, .ref a0), (1, .int i1), (4, .int (nI 0))] [] h11) ∧ (¬ v14 = 0 → Post none h10)) ∧ (¬ v13 = 0 → Post none h9))))) : zm_Go E nc ns 0 [(0, .ref a0), (1, .int i1)] [] h := by
  refine zm_aload_n C rfl 0 rfl dX9_readDictionary_0 ?_
  refine zm_aload_n C rfl 0 rfl dX9_readDictionary_1 ?_
  refine zm_getI C ff_X9_120 dX9_readDictionary_2 w (fun v1 w => ?_)
  obtain ⟨wr, w⟩ := w
  refine zm_Vl (As := [.int v1]) (rest := []) C M_X9_varint sv_X9_80 rfl dX9_readDictionary_5 rfl (Nat.le_of_ble_eq_true rfl) (by decide) (by decide) (by show nc + 0 ≤ 0; omega) (by show ns + 0 ≤ 0; omega) wr w (fun v2 h1 w => ?_)
  refine zm_lstore_n (L' := [(0, .ref a0), (1, .int i1), (2, .long v2)]) C rfl (by decide) [1, 2, 0] dX9_readDictionary_8 rfl ?_
  refine zm_aload_n C rfl 0 rfl dX9_readDictionary_9 ?_
  refine zm_getI C ff_X9_58 dX9_readDictionary_10 w (fun v3 w => ?_)
  refine zm_if_ne (tgt := 34) C dX9_readDictionary_13 (by decide) (fun z => ?_) (fun z => ?_)
  · replace w := w.1 z
    refine zm_aload_n C rfl 0 rfl dX9_readDictionary_34 ?_
    refine zm_getI C ff_X9_58 dX9_readDictionary_35 w (fun v4 w => ?_)
    refine zm_if_eq (tgt := 42) C dX9_readDictionary_38 (by decide) (fun z => ?_) (fun z => ?_)
    · replace w := w.1 z
      refine zm_aload_n C rfl 0 rfl dX9_readDictionary_42 ?_
      refine zm_lload_n C rfl 2 rfl dX9_readDictionary_43 ?_
      refine zm_l2i C dX9_readDictionary_44 ?_
      obtain ⟨wr, w⟩ := w
      refine zm_Vv (As := [.int v2.toInt32]) (rest := []) C M_X9_readPlain sv_X9_187 rfl dX9_readDictionary_45 rfl (Nat.le_of_ble_eq_true rfl) (by decide) (by decide) (by show nc + 0 ≤ 0; omega) (by show ns + 0 ≤ 0; omega) wr w (fun h2 w => ?_)
      refine zm_aload_n C rfl 0 rfl dX9_readDictionary_48 ?_
      refine zm_getI C ff_X9_58 dX9_readDictionary_49 w (fun v5 w => ?_)
      refine zm_if_eq (tgt := 56) C dX9_readDictionary_52 (by decide) (fun z => ?_) (fun z => ?_)
      · replace w := w.1 z
        refine zm_aload_n C rfl 0 rfl dX9_readDictionary_56 ?_
        refine zm_aload_n C rfl 0 rfl dX9_readDictionary_57 ?_
        refine zm_getI C ff_X9_171 dX9_readDictionary_58 w (fun v6 w => ?_)
        refine zm_put C ff_X9_190 ft_X9 fp_X9_9_9 rfl rfl dX9_readDictionary_61 w (fun h3 w => ?_)
        refine zm_iconst (v := nI 0) C (by decide) dX9_readDictionary_64 ?_
        refine zm_istore (L' := [(0, .ref a0), (1, .int i1), (2, .long v2), (4, .int (nI 0))]) C (by decide) [1, 2, 3, 0] dX9_readDictionary_65 rfl ?_
        exact zm_loc [0, 1, 3] rfl w
      · replace w := w.2 z
        exact zm_return C Rt (by show nc ≤ 0; omega) (by show ns ≤ 0; omega) dX9_readDictionary_55 w
    · replace w := w.2 z
      exact zm_return C Rt (by show nc ≤ 0; omega) (by show ns ≤ 0; omega) dX9_readDictionary_41 w
  · replace w := w.2 z
    refine zm_lload_n C rfl 2 rfl dX9_readDictionary_16 ?_
    refine zm_lconst (v := lN 0) C (by decide) dX9_readDictionary_17 ?_
    refine zm_lcmp C dX9_readDictionary_18 ?_
    refine zm_if_lt (tgt := 29) C dX9_readDictionary_19 (by decide) (fun z => ?_) (fun z => ?_)
    · replace w := w.1 z
      refine zm_aload_n C rfl 0 rfl dX9_readDictionary_29 ?_
      refine zm_iconst (v := nI 4) C (by decide) dX9_readDictionary_30 ?_
      refine zm_put C ff_X9_58 ft_X9 fp_X9_9_17 rfl rfl dX9_readDictionary_31 w (fun h4 w => ?_)
      refine zm_aload_n C rfl 0 rfl dX9_readDictionary_34 ?_
      refine zm_getI C ff_X9_58 dX9_readDictionary_35 w (fun v7 w => ?_)
      refine zm_if_eq (tgt := 42) C dX9_readDictionary_38 (by decide) (fun z => ?_) (fun z => ?_)
      · replace w := w.1 z
        refine zm_aload_n C rfl 0 rfl dX9_readDictionary_42 ?_
        refine zm_lload_n C rfl 2 rfl dX9_readDictionary_43 ?_
        refine zm_l2i C dX9_readDictionary_44 ?_
        obtain ⟨wr, w⟩ := w
        refine zm_Vv (As := [.int v2.toInt32]) (rest := []) C M_X9_readPlain sv_X9_187 rfl dX9_readDictionary_45 rfl (Nat.le_of_ble_eq_true rfl) (by decide) (by decide) (by show nc + 0 ≤ 0; omega) (by show ns + 0 ≤ 0; omega) wr w (fun h5 w => ?_)
        refine zm_aload_n C rfl 0 rfl dX9_readDictionary_48 ?_
        refine zm_getI C ff_X9_58 dX9_readDictionary_49 w (fun v8 w => ?_)
        refine zm_if_eq (tgt := 56) C dX9_readDictionary_52 (by decide) (fun z => ?_) (fun z => ?_)
        · replace w := w.1 z
          refine zm_aload_n C rfl 0 rfl dX9_readDictionary_56 ?_
          refine zm_aload_n C rfl 0 rfl dX9_readDictionary_57 ?_
          refine zm_getI C ff_X9_171 dX9_readDictionary_58 w (fun v9 w => ?_)
          refine zm_put C ff_X9_190 ft_X9 fp_X9_9_9 rfl rfl dX9_readDictionary_61 w (fun h6 w => ?_)
          refine zm_iconst (v := nI 0) C (by decide) dX9_readDictionary_64 ?_
          refine zm_istore (L' := [(0, .ref a0), (1, .int i1), (2, .long v2), (4, .int (nI 0))]) C (by decide) [1, 2, 3, 0] dX9_readDictionary_65 rfl ?_
          exact zm_loc [0, 1, 3] rfl w
        · replace w := w.2 z
          exact zm_return C Rt (by show nc ≤ 0; omega) (by show ns ≤ 0; omega) dX9_readDictionary_55 w
      · replace w := w.2 z
        exact zm_return C Rt (by show nc ≤ 0; omega) (by show ns ≤ 0; omega) dX9_readDictionary_41 w
    · replace w := w.2 z
      refine zm_lload_n C rfl 2 rfl dX9_readDictionary_22 ?_
      refine zm_iload_n C rfl 1 rfl dX9_readDictionary_23 ?_
      refine zm_i2l C dX9_readDictionary_24 ?_
      refine zm_lcmp C dX9_readDictionary_25 ?_
      refine zm_if_le (tgt := 34) C dX9_readDictionary_26 (by decide) (fun z => ?_) (fun z => ?_)
      · replace w := w.1 z
        refine zm_aload_n C rfl 0 rfl dX9_readDictionary_34 ?_
        refine zm_getI C ff_X9_58 dX9_readDictionary_35 w (fun v10 w => ?_)
        refine zm_if_eq (tgt := 42) C dX9_readDictionary_38 (by decide) (fun z => ?_) (fun z => ?_)
        · replace w := w.1 z
          refine zm_aload_n C rfl 0 rfl dX9_readDictionary_42 ?_
          refine zm_lload_n C rfl 2 rfl dX9_readDictionary_43 ?_
          refine zm_l2i C dX9_readDictionary_44 ?_
          obtain ⟨wr, w⟩ := w
          refine zm_Vv (As := [.int v2.toInt32]) (rest := []) C M_X9_readPlain sv_X9_187 rfl dX9_readDictionary_45 rfl (Nat.le_of_ble_eq_true rfl) (by decide) (by decide) (by show nc + 0 ≤ 0; omega) (by show ns + 0 ≤ 0; omega) wr w (fun h7 w => ?_)
          refine zm_aload_n C rfl 0 rfl dX9_readDictionary_48 ?_
          refine zm_getI C ff_X9_58 dX9_readDictionary_49 w (fun v11 w => ?_)
          refine zm_if_eq (tgt := 56) C dX9_readDictionary_52 (by decide) (fun z => ?_) (fun z => ?_)
          · replace w := w.1 z
            refine zm_aload_n C rfl 0 rfl dX9_readDictionary_56 ?_
            refine zm_aload_n C rfl 0 rfl dX9_readDictionary_57 ?_
            refine zm_getI C ff_X9_171 dX9_readDictionary_58 w (fun v12 w => ?_)
            refine zm_put C ff_X9_190 ft_X9 fp_X9_9_9 rfl rfl dX9_readDictionary_61 w (fun h8 w => ?_)
            refine zm_iconst (v := nI 0) C (by decide) dX9_readDictionary_64 ?_
            refine zm_istore (L' := [(0, .ref a0), (1, .int i1), (2, .long v2), (4, .int (nI 0))]) C (by decide) [1, 2, 3, 0] dX9_readDictionary_65 rfl ?_
            exact zm_loc [0, 1, 3] rfl w
          · replace w := w.2 z
            exact zm_return C Rt (by show nc ≤ 0; omega) (by show ns ≤ 0; omega) dX9_readDictionary_55 w
        · replace w := w.2 z
          exact zm_return C Rt (by show nc ≤ 0; omega) (by show ns ≤ 0; omega) dX9_readDictionary_41 w
      · replace w := w.2 z
        refine zm_aload_n C rfl 0 rfl dX9_readDictionary_29 ?_
        refine zm_iconst (v := nI 4) C (by decide) dX9_readDictionary_30 ?_
        refine zm_put C ff_X9_58 ft_X9 fp_X9_9_17 rfl rfl dX9_readDictionary_31 w (fun h9 w => ?_)
        refine zm_aload_n C rfl 0 rfl dX9_readDictionary_34 ?_
        refine zm_getI C ff_X9_58 dX9_readDictionary_35 w (fun v13 w => ?_)
        refine zm_if_eq (tgt := 42) C dX9_readDictionary_38 (by decide) (fun z => ?_) (fun z => ?_)
        · replace w := w.1 z
          refine zm_aload_n C rfl 0 rfl dX9_readDictionary_42 ?_
          refine zm_lload_n C rfl 2 rfl dX9_readDictionary_43 ?_
          refine zm_l2i C dX9_readDictionary_44 ?_
          obtain ⟨wr, w⟩ := w
          refine zm_Vv (As := [.int v2.toInt32]) (rest := []) C M_X9_readPlain sv_X9_187 rfl dX9_readDictionary_45 rfl (Nat.le_of_ble_eq_true rfl) (by decide) (by decide) (by show nc + 0 ≤ 0; omega) (by show ns + 0 ≤ 0; omega) wr w (fun h10 w => ?_)
          refine zm_aload_n C rfl 0 rfl dX9_readDictionary_48 ?_
          refine zm_getI C ff_X9_58 dX9_readDictionary_49 w (fun v14 w => ?_)
          refine zm_if_eq (tgt := 56) C dX9_readDictionary_52 (by decide) (fun z => ?_) (fun z => ?_)
          · replace w := w.1 z
            refine zm_aload_n C rfl 0 rfl dX9_readDictionary_56 ?_
            refine zm_aload_n C rfl 0 rfl dX9_readDictionary_57 ?_
            refine zm_getI C ff_X9_171 dX9_readDictionary_58 w (fun v15 w => ?_)
            refine zm_put C ff_X9_190 ft_X9 fp_X9_9_9 rfl rfl dX9_readDictionary_61 w (fun h11 w => ?_)
            refine zm_iconst (v := nI 0) C (by decide) dX9_readDictionary_64 ?_
            refine zm_istore (L' := [(0, .ref a0), (1, .int i1), (2, .long v2), (4, .int (nI 0))]) C (by decide) [1, 2, 3, 0] dX9_readDictionary_65 rfl ?_
            exact zm_loc [0, 1, 3] rfl w
          · replace w := w.2 z
            exact zm_return C Rt (by show nc ≤ 0; omega) (by show ns ≤ 0; omega) dX9_readDictionary_55 w
        · replace w := w.2 z
          exact zm_return C Rt (by show nc ≤ 0; omega) (by show ns ≤ 0; omega) dX9_readDictionary_41 w
set_option maxRecDepth 20000 in
theorem B_X9_readDictionary_67 {E : zm_E} {K : zm_K} {Post : zm_Po} {nc ns : Nat} (C : zm_Cx E K cX9_readDictionary RX9 4 84 0 0 10) (Rt : zm_Rt E Post 0 0 none) {a0 : Nat} {i1 : Int32} {i4 : Int32} {h : zm_H} (w : zm_gI h a0 9 9 fun v1 => (v1 < i4 → zm_Go E nc ns 99 [(0, .ref a0), (1, .int i1), (4, .int (nI 0))] [] h) ∧ (¬ v1 < i4 → zm_gR h a0 9 3 fun v2 => zm_gR h a0 9 2 fun v3 => zm_ld K 1 h v3 i4 fun v4 => zm_sI K h v2 i4 v4 fun h1 => zm_Go E nc ns 67 [(0, .ref a0), (1, .int i1), (4, .int (i4 + (nI 1)))] [] h1)) : zm_Go E nc ns 67 [(0, .ref a0), (1, .int i1), (4, .int i4)] [] h := by
  refine zm_iload C 2 rfl dX9_readDictionary_67 ?_
  refine zm_aload_n C rfl 0 rfl dX9_readDictionary_69 ?_
  refine zm_getI C ff_X9_190 dX9_readDictionary_70 w (fun v1 w => ?_)
  refine zm_icmp_gt (tgt := 96) C dX9_readDictionary_73 (by decide) (fun z => ?_) (fun z => ?_)
  · replace w := w.1 z
    refine zm_iconst (v := nI 0) C (by decide) dX9_readDictionary_96 ?_
    refine zm_istore (L' := [(0, .ref a0), (1, .int i1), (4, .int (nI 0))]) C (by decide) [1, 2, 0] dX9_readDictionary_97 rfl ?_
    exact w
  · replace w := w.2 z
    refine zm_aload_n C rfl 0 rfl dX9_readDictionary_76 ?_
    refine zm_getR C ff_X9_16 dX9_readDictionary_77 w (fun v2 w => ?_)
    refine zm_iload C 2 rfl dX9_readDictionary_80 ?_
    refine zm_aload_n C rfl 0 rfl dX9_readDictionary_82 ?_
    refine zm_getR C ff_X9_13 dX9_readDictionary_83 w (fun v3 w => ?_)
    refine zm_iload C 2 rfl dX9_readDictionary_86 ?_
    refine zm_ldI C dX9_readDictionary_88 w (fun v4 w => ?_)
    refine zm_stI C dX9_readDictionary_89 w (fun h1 w => ?_)
    refine zm_iinc (L' := [(0, .ref a0), (1, .int i1), (4, .int (i4 + (nI 1)))]) C (by decide) 2 [1, 2, 0] dX9_readDictionary_90 rfl rfl rfl ?_
    refine zm_goto (tgt := 67) C dX9_readDictionary_93 (by decide) ?_
    exact w
set_option maxRecDepth 20000 in
theorem B_X9_readDictionary_99 {E : zm_E} {K : zm_K} {Post : zm_Po} {nc ns : Nat} (C : zm_Cx E K cX9_readDictionary RX9 4 84 0 0 10) (Rt : zm_Rt E Post 0 0 none) {a0 : Nat} {i1 : Int32} {i4 : Int32} {h : zm_H} (hnc : nc ≤ 0) (hns : ns ≤ 0) (w : zm_gR h a0 9 3 fun v1 => zm_gI h a0 9 9 fun v2 => zm_ld K 1 h v1 v2 fun v3 => (v3 ≤ i4 → zm_pf h a0 9 8 (.int (nI 0)) fun h1 => zm_gI h1 a0 9 16 fun v4 => zm_gI h1 a0 9 14 fun v5 => (v4 < v5 → zm_gR h1 a0 9 11 fun v6 => zm_gI h1 a0 9 16 fun v7 => zm_ld K 1 h1 v6 v7 fun v8 => (v8 ≤ (nI 32) → zm_gI h1 a0 9 17 fun v9 => (v9 = 0 → zm_gR h1 a0 9 11 fun v10 => zm_gI h1 a0 9 16 fun v11 => zm_ld K 1 h1 v10 v11 fun v12 => zm_gI h1 a0 9 16 fun v13 => zm_pf h1 a0 9 16 (.int (v13 + (nI 1))) fun h2 => zm_gR h2 a0 9 20 fun v14 => zm_gI h2 a0 9 14 fun v15 => zm_rc h2 a0 9 ∧ zm_cv K M_X9_readRuns [.ref a0, .ref v14, .int i1, .int v12, .int v15] h2 fun h3 => zm_gI h3 a0 9 17 fun v16 => (¬ v16 = 0 → zm_Go E nc ns 247 [(0, .ref a0), (1, .int i1), (5, .int (nI 0))] [] h3) ∧ (v16 = 0 → zm_gI h3 a0 9 16 fun v17 => zm_gI h3 a0 9 14 fun v18 => (v18 ≤ v17 → zm_Go E nc ns 247 [(0, .ref a0), (1, .int i1), (5, .int (nI 0))] [] h3) ∧ (¬ v18 ≤ v17 → zm_pf h3 a0 9 17 (.int (nI 6)) fun h4 => zm_Go E nc ns 247 [(0, .ref a0), (1, .int i1), (5, .int (nI 0))] [] h4))) ∧ (¬ v9 = 0 → Post none h1)) ∧ (¬ v8 ≤ (nI 32) → zm_pf h1 a0 9 17 (.int (nI 5)) fun h5 => zm_gI h5 a0 9 17 fun v19 => (v19 = 0 → zm_gR h5 a0 9 11 fun v20 => zm_gI h5 a0 9 16 fun v21 => zm_ld K 1 h5 v20 v21 fun v22 => zm_gI h5 a0 9 16 fun v23 => zm_pf h5 a0 9 16 (.int (v23 + (nI 1))) fun h6 => zm_gR h6 a0 9 20 fun v24 => zm_gI h6 a0 9 14 fun v25 => zm_rc h6 a0 9 ∧ zm_cv K M_X9_readRuns [.ref a0, .ref v24, .int i1, .int v22, .int v25] h6 fun h7 => zm_gI h7 a0 9 17 fun v26 => (¬ v26 = 0 → zm_Go E nc ns 247 [(0, .ref a0), (1, .int i1), (5, .int (nI 0))] [] h7) ∧ (v26 = 0 → zm_gI h7 a0 9 16 fun v27 => zm_gI h7 a0 9 14 fun v28 => (v28 ≤ v27 → zm_Go E nc ns 247 [(0, .ref a0), (1, .int i1), (5, .int (nI 0))] [] h7) ∧ (¬ v28 ≤ v27 → zm_pf h7 a0 9 17 (.int (nI 6)) fun h8 => zm_Go E nc ns 247 [(0, .ref a0), (1, .int i1), (5, .int (nI 0))] [] h8))) ∧ (¬ v19 = 0 → Post none h5))) ∧ (¬ v4 < v5 → zm_pf h1 a0 9 17 (.int (nI 1)) fun h9 => zm_gI h9 a0 9 17 fun v29 => (v29 = 0 → zm_gR h9 a0 9 11 fun v30 => zm_gI h9 a0 9 16 fun v31 => zm_ld K 1 h9 v30 v31 fun v32 => zm_gI h9 a0 9 16 fun v33 => zm_pf h9 a0 9 16 (.int (v33 + (nI 1))) fun h10 => zm_gR h10 a0 9 20 fun v34 => zm_gI h10 a0 9 14 fun v35 => zm_rc h10 a0 9 ∧ zm_cv K M_X9_readRuns [.ref a0, .ref v34, .int i1, .int v32, .int v35] h10 fun h11 => zm_gI h11 a0 9 17 fun v36 => (¬ v36 = 0 → zm_Go E nc ns 247 [(0, .ref a0), (1, .int i1), (5, .int (nI 0))] [] h11) ∧ (v36 = 0 → zm_gI h11 a0 9 16 fun v37 => zm_gI h11 a0 9 14 fun v38 => (v38 ≤ v37 → zm_Go E nc ns 247 [(0, .ref a0), (1, .int i1), (5, .int (nI 0))] [] h11) ∧ (¬ v38 ≤ v37 → zm_pf h11 a0 9 17 (.int (nI 6)) fun h12 => zm_Go E nc ns 247 [(0, .ref a0), (1, .int i1), (5, .int (nI 0))] [] h12))) ∧ (¬ v29 = 0 → Post none h9))) ∧ (¬ v3 ≤ i4 → zm_gR h a0 9 6 fun v39 => zm_gR h a0 9 5 fun v40 => zm_ld K 1 h v40 i4 fun v41 => zm_sI K h v39 i4 v41 fun h13 => zm_Go E nc ns 99 [(0, .ref a0), (1, .int i1), (4, .int (i4 + (nI 1)))] [] h13)) : zm_Go E nc ns 99 [(0, .ref a0), (1, .int i1), (4, .int i4)] [] h := by
  refine zm_iload C 2 rfl dX9_readDictionary_99 ?_
  refine zm_aload_n C rfl 0 rfl dX9_readDictionary_101 ?_
  refine zm_getR C ff_X9_16 dX9_readDictionary_102 w (fun v1 w => ?_)
  refine zm_aload_n C rfl 0 rfl dX9_readDictionary_105 ?_
  refine zm_getI C ff_X9_190 dX9_readDictionary_106 w (fun v2 w => ?_)
  refine zm_ldI C dX9_readDictionary_109 w (fun v3 w => ?_)
  refine zm_icmp_ge (tgt := 133) C dX9_readDictionary_110 (by decide) (fun z => ?_) (fun z => ?_)
  · replace w := w.1 z
    refine zm_aload_n C rfl 0 rfl dX9_readDictionary_133 ?_
    refine zm_iconst (v := nI 0) C (by decide) dX9_readDictionary_134 ?_
    refine zm_put C ff_X9_171 ft_X9 fp_X9_9_8 rfl rfl dX9_readDictionary_135 w (fun h1 w => ?_)
    refine zm_aload_n C rfl 0 rfl dX9_readDictionary_138 ?_
    refine zm_getI C ff_X9_61 dX9_readDictionary_139 w (fun v4 w => ?_)
    refine zm_aload_n C rfl 0 rfl dX9_readDictionary_142 ?_
    refine zm_getI C ff_X9_120 dX9_readDictionary_143 w (fun v5 w => ?_)
    refine zm_icmp_lt (tgt := 157) C dX9_readDictionary_146 (by decide) (fun z => ?_) (fun z => ?_)
    · replace w := w.1 z
      refine zm_aload_n C rfl 0 rfl dX9_readDictionary_157 ?_
      refine zm_getR C ff_X9_31 dX9_readDictionary_158 w (fun v6 w => ?_)
      refine zm_aload_n C rfl 0 rfl dX9_readDictionary_161 ?_
      refine zm_getI C ff_X9_61 dX9_readDictionary_162 w (fun v7 w => ?_)
      refine zm_ldI C dX9_readDictionary_165 w (fun v8 w => ?_)
      refine zm_bipush (v := nI 32) C (by decide) dX9_readDictionary_166 ?_
      refine zm_icmp_le (tgt := 176) C dX9_readDictionary_168 (by decide) (fun z => ?_) (fun z => ?_)
      · replace w := w.1 z
        refine zm_aload_n C rfl 0 rfl dX9_readDictionary_176 ?_
        refine zm_getI C ff_X9_58 dX9_readDictionary_177 w (fun v9 w => ?_)
        refine zm_if_eq (tgt := 184) C dX9_readDictionary_180 (by decide) (fun z => ?_) (fun z => ?_)
        · replace w := w.1 z
          refine zm_aload_n C rfl 0 rfl dX9_readDictionary_184 ?_
          refine zm_getR C ff_X9_31 dX9_readDictionary_185 w (fun v10 w => ?_)
          refine zm_aload_n C rfl 0 rfl dX9_readDictionary_188 ?_
          refine zm_getI C ff_X9_61 dX9_readDictionary_189 w (fun v11 w => ?_)
          refine zm_ldI C dX9_readDictionary_192 w (fun v12 w => ?_)
          refine zm_istore (L' := [(0, .ref a0), (1, .int i1), (4, .int v12)]) C (by decide) [1, 2, 0] dX9_readDictionary_193 rfl ?_
          refine zm_aload_n C rfl 0 rfl dX9_readDictionary_195 ?_
          refine zm_dup C rfl dX9_readDictionary_196 ?_
          refine zm_getI C ff_X9_61 dX9_readDictionary_197 w (fun v13 w => ?_)
          refine zm_iconst (v := nI 1) C (by decide) dX9_readDictionary_200 ?_
          refine zm_iadd C dX9_readDictionary_201 ?_
          refine zm_put C ff_X9_61 ft_X9 fp_X9_9_16 rfl rfl dX9_readDictionary_202 w (fun h2 w => ?_)
          refine zm_aload_n C rfl 0 rfl dX9_readDictionary_205 ?_
          refine zm_aload_n C rfl 0 rfl dX9_readDictionary_206 ?_
          refine zm_getR C ff_X9_42 dX9_readDictionary_207 w (fun v14 w => ?_)
          refine zm_iload_n C rfl 1 rfl dX9_readDictionary_210 ?_
          refine zm_iload C 2 rfl dX9_readDictionary_211 ?_
          refine zm_aload_n C rfl 0 rfl dX9_readDictionary_213 ?_
          refine zm_getI C ff_X9_120 dX9_readDictionary_214 w (fun v15 w => ?_)
          obtain ⟨wr, w⟩ := w
          refine zm_Vv (As := [.ref v14, .int i1, .int v12, .int v15]) (rest := []) C M_X9_readRuns sv_X9_193 rfl dX9_readDictionary_217 rfl (Nat.le_of_ble_eq_true rfl) (by decide) (by decide) (by show nc + 0 ≤ 0; omega) (by show ns + 0 ≤ 0; omega) wr w (fun h3 w => ?_)
          refine zm_aload_n C rfl 0 rfl dX9_readDictionary_220 ?_
          refine zm_getI C ff_X9_58 dX9_readDictionary_221 w (fun v16 w => ?_)
          refine zm_if_ne (tgt := 244) C dX9_readDictionary_224 (by decide) (fun z => ?_) (fun z => ?_)
          · replace w := w.1 z
            refine zm_iconst (v := nI 0) C (by decide) dX9_readDictionary_244 ?_
            refine zm_istore (L' := [(0, .ref a0), (1, .int i1), (4, .int v12), (5, .int (nI 0))]) C (by decide) [1, 2, 3, 0] dX9_readDictionary_245 rfl ?_
            exact zm_loc [0, 1, 3] rfl w
          · replace w := w.2 z
            refine zm_aload_n C rfl 0 rfl dX9_readDictionary_227 ?_
            refine zm_getI C ff_X9_61 dX9_readDictionary_228 w (fun v17 w => ?_)
            refine zm_aload_n C rfl 0 rfl dX9_readDictionary_231 ?_
            refine zm_getI C ff_X9_120 dX9_readDictionary_232 w (fun v18 w => ?_)
            refine zm_icmp_ge (tgt := 244) C dX9_readDictionary_235 (by decide) (fun z => ?_) (fun z => ?_)
            · replace w := w.1 z
              refine zm_iconst (v := nI 0) C (by decide) dX9_readDictionary_244 ?_
              refine zm_istore (L' := [(0, .ref a0), (1, .int i1), (4, .int v12), (5, .int (nI 0))]) C (by decide) [1, 2, 3, 0] dX9_readDictionary_245 rfl ?_
              exact zm_loc [0, 1, 3] rfl w
            · replace w := w.2 z
              refine zm_aload_n C rfl 0 rfl dX9_readDictionary_238 ?_
              refine zm_bipush (v := nI 6) C (by decide) dX9_readDictionary_239 ?_
              refine zm_put C ff_X9_58 ft_X9 fp_X9_9_17 rfl rfl dX9_readDictionary_241 w (fun h4 w => ?_)
              refine zm_iconst (v := nI 0) C (by decide) dX9_readDictionary_244 ?_
              refine zm_istore (L' := [(0, .ref a0), (1, .int i1), (4, .int v12), (5, .int (nI 0))]) C (by decide) [1, 2, 3, 0] dX9_readDictionary_245 rfl ?_
              exact zm_loc [0, 1, 3] rfl w
        · replace w := w.2 z
          exact zm_return C Rt (by show nc ≤ 0; omega) (by show ns ≤ 0; omega) dX9_readDictionary_183 w
      · replace w := w.2 z
        refine zm_aload_n C rfl 0 rfl dX9_readDictionary_171 ?_
        refine zm_iconst (v := nI 5) C (by decide) dX9_readDictionary_172 ?_
        refine zm_put C ff_X9_58 ft_X9 fp_X9_9_17 rfl rfl dX9_readDictionary_173 w (fun h5 w => ?_)
        refine zm_aload_n C rfl 0 rfl dX9_readDictionary_176 ?_
        refine zm_getI C ff_X9_58 dX9_readDictionary_177 w (fun v19 w => ?_)
        refine zm_if_eq (tgt := 184) C dX9_readDictionary_180 (by decide) (fun z => ?_) (fun z => ?_)
        · replace w := w.1 z
          refine zm_aload_n C rfl 0 rfl dX9_readDictionary_184 ?_
          refine zm_getR C ff_X9_31 dX9_readDictionary_185 w (fun v20 w => ?_)
          refine zm_aload_n C rfl 0 rfl dX9_readDictionary_188 ?_
          refine zm_getI C ff_X9_61 dX9_readDictionary_189 w (fun v21 w => ?_)
          refine zm_ldI C dX9_readDictionary_192 w (fun v22 w => ?_)
          refine zm_istore (L' := [(0, .ref a0), (1, .int i1), (4, .int v22)]) C (by decide) [1, 2, 0] dX9_readDictionary_193 rfl ?_
          refine zm_aload_n C rfl 0 rfl dX9_readDictionary_195 ?_
          refine zm_dup C rfl dX9_readDictionary_196 ?_
          refine zm_getI C ff_X9_61 dX9_readDictionary_197 w (fun v23 w => ?_)
          refine zm_iconst (v := nI 1) C (by decide) dX9_readDictionary_200 ?_
          refine zm_iadd C dX9_readDictionary_201 ?_
          refine zm_put C ff_X9_61 ft_X9 fp_X9_9_16 rfl rfl dX9_readDictionary_202 w (fun h6 w => ?_)
          refine zm_aload_n C rfl 0 rfl dX9_readDictionary_205 ?_
          refine zm_aload_n C rfl 0 rfl dX9_readDictionary_206 ?_
          refine zm_getR C ff_X9_42 dX9_readDictionary_207 w (fun v24 w => ?_)
          refine zm_iload_n C rfl 1 rfl dX9_readDictionary_210 ?_
          refine zm_iload C 2 rfl dX9_readDictionary_211 ?_
          refine zm_aload_n C rfl 0 rfl dX9_readDictionary_213 ?_
          refine zm_getI C ff_X9_120 dX9_readDictionary_214 w (fun v25 w => ?_)
          obtain ⟨wr, w⟩ := w
          refine zm_Vv (As := [.ref v24, .int i1, .int v22, .int v25]) (rest := []) C M_X9_readRuns sv_X9_193 rfl dX9_readDictionary_217 rfl (Nat.le_of_ble_eq_true rfl) (by decide) (by decide) (by show nc + 0 ≤ 0; omega) (by show ns + 0 ≤ 0; omega) wr w (fun h7 w => ?_)
          refine zm_aload_n C rfl 0 rfl dX9_readDictionary_220 ?_
          refine zm_getI C ff_X9_58 dX9_readDictionary_221 w (fun v26 w => ?_)
          refine zm_if_ne (tgt := 244) C dX9_readDictionary_224 (by decide) (fun z => ?_) (fun z => ?_)
          · replace w := w.1 z
            refine zm_iconst (v := nI 0) C (by decide) dX9_readDictionary_244 ?_
            refine zm_istore (L' := [(0, .ref a0), (1, .int i1), (4, .int v22), (5, .int (nI 0))]) C (by decide) [1, 2, 3, 0] dX9_readDictionary_245 rfl ?_
            exact zm_loc [0, 1, 3] rfl w
          · replace w := w.2 z
            refine zm_aload_n C rfl 0 rfl dX9_readDictionary_227 ?_
            refine zm_getI C ff_X9_61 dX9_readDictionary_228 w (fun v27 w => ?_)
            refine zm_aload_n C rfl 0 rfl dX9_readDictionary_231 ?_
            refine zm_getI C ff_X9_120 dX9_readDictionary_232 w (fun v28 w => ?_)
            refine zm_icmp_ge (tgt := 244) C dX9_readDictionary_235 (by decide) (fun z => ?_) (fun z => ?_)
            · replace w := w.1 z
              refine zm_iconst (v := nI 0) C (by decide) dX9_readDictionary_244 ?_
              refine zm_istore (L' := [(0, .ref a0), (1, .int i1), (4, .int v22), (5, .int (nI 0))]) C (by decide) [1, 2, 3, 0] dX9_readDictionary_245 rfl ?_
              exact zm_loc [0, 1, 3] rfl w
            · replace w := w.2 z
              refine zm_aload_n C rfl 0 rfl dX9_readDictionary_238 ?_
              refine zm_bipush (v := nI 6) C (by decide) dX9_readDictionary_239 ?_
              refine zm_put C ff_X9_58 ft_X9 fp_X9_9_17 rfl rfl dX9_readDictionary_241 w (fun h8 w => ?_)
              refine zm_iconst (v := nI 0) C (by decide) dX9_readDictionary_244 ?_
              refine zm_istore (L' := [(0, .ref a0), (1, .int i1), (4, .int v22), (5, .int (nI 0))]) C (by decide) [1, 2, 3, 0] dX9_readDictionary_245 rfl ?_
              exact zm_loc [0, 1, 3] rfl w
        · replace w := w.2 z
          exact zm_return C Rt (by show nc ≤ 0; omega) (by show ns ≤ 0; omega) dX9_readDictionary_183 w
    · replace w := w.2 z
      refine zm_aload_n C rfl 0 rfl dX9_readDictionary_149 ?_
      refine zm_iconst (v := nI 1) C (by decide) dX9_readDictionary_150 ?_
      refine zm_put C ff_X9_58 ft_X9 fp_X9_9_17 rfl rfl dX9_readDictionary_151 w (fun h9 w => ?_)
      refine zm_goto (tgt := 176) C dX9_readDictionary_154 (by decide) ?_
      refine zm_aload_n C rfl 0 rfl dX9_readDictionary_176 ?_
      refine zm_getI C ff_X9_58 dX9_readDictionary_177 w (fun v29 w => ?_)
      refine zm_if_eq (tgt := 184) C dX9_readDictionary_180 (by decide) (fun z => ?_) (fun z => ?_)
      · replace w := w.1 z
        refine zm_aload_n C rfl 0 rfl dX9_readDictionary_184 ?_
        refine zm_getR C ff_X9_31 dX9_readDictionary_185 w (fun v30 w => ?_)
        refine zm_aload_n C rfl 0 rfl dX9_readDictionary_188 ?_
        refine zm_getI C ff_X9_61 dX9_readDictionary_189 w (fun v31 w => ?_)
        refine zm_ldI C dX9_readDictionary_192 w (fun v32 w => ?_)
        refine zm_istore (L' := [(0, .ref a0), (1, .int i1), (4, .int v32)]) C (by decide) [1, 2, 0] dX9_readDictionary_193 rfl ?_
        refine zm_aload_n C rfl 0 rfl dX9_readDictionary_195 ?_
        refine zm_dup C rfl dX9_readDictionary_196 ?_
        refine zm_getI C ff_X9_61 dX9_readDictionary_197 w (fun v33 w => ?_)
        refine zm_iconst (v := nI 1) C (by decide) dX9_readDictionary_200 ?_
        refine zm_iadd C dX9_readDictionary_201 ?_
        refine zm_put C ff_X9_61 ft_X9 fp_X9_9_16 rfl rfl dX9_readDictionary_202 w (fun h10 w => ?_)
        refine zm_aload_n C rfl 0 rfl dX9_readDictionary_205 ?_
        refine zm_aload_n C rfl 0 rfl dX9_readDictionary_206 ?_
        refine zm_getR C ff_X9_42 dX9_readDictionary_207 w (fun v34 w => ?_)
        refine zm_iload_n C rfl 1 rfl dX9_readDictionary_210 ?_
        refine zm_iload C 2 rfl dX9_readDictionary_211 ?_
        refine zm_aload_n C rfl 0 rfl dX9_readDictionary_213 ?_
        refine zm_getI C ff_X9_120 dX9_readDictionary_214 w (fun v35 w => ?_)
        obtain ⟨wr, w⟩ := w
        refine zm_Vv (As := [.ref v34, .int i1, .int v32, .int v35]) (rest := []) C M_X9_readRuns sv_X9_193 rfl dX9_readDictionary_217 rfl (Nat.le_of_ble_eq_true rfl) (by decide) (by decide) (by show nc + 0 ≤ 0; omega) (by show ns + 0 ≤ 0; omega) wr w (fun h11 w => ?_)
        refine zm_aload_n C rfl 0 rfl dX9_readDictionary_220 ?_
        refine zm_getI C ff_X9_58 dX9_readDictionary_221 w (fun v36 w => ?_)
        refine zm_if_ne (tgt := 244) C dX9_readDictionary_224 (by decide) (fun z => ?_) (fun z => ?_)
        · replace w := w.1 z
          refine zm_iconst (v := nI 0) C (by decide) dX9_readDictionary_244 ?_
          refine zm_istore (L' := [(0, .ref a0), (1, .int i1), (4, .int v32), (5, .int (nI 0))]) C (by decide) [1, 2, 3, 0] dX9_readDictionary_245 rfl ?_
          exact zm_loc [0, 1, 3] rfl w
        · replace w := w.2 z
          refine zm_aload_n C rfl 0 rfl dX9_readDictionary_227 ?_
          refine zm_getI C ff_X9_61 dX9_readDictionary_228 w (fun v37 w => ?_)
          refine zm_aload_n C rfl 0 rfl dX9_readDictionary_231 ?_
          refine zm_getI C ff_X9_120 dX9_readDictionary_232 w (fun v38 w => ?_)
          refine zm_icmp_ge (tgt := 244) C dX9_readDictionary_235 (by decide) (fun z => ?_) (fun z => ?_)
          · replace w := w.1 z
            refine zm_iconst (v := nI 0) C (by decide) dX9_readDictionary_244 ?_
            refine zm_istore (L' := [(0, .ref a0), (1, .int i1), (4, .int v32), (5, .int (nI 0))]) C (by decide) [1, 2, 3, 0] dX9_readDictionary_245 rfl ?_
            exact zm_loc [0, 1, 3] rfl w
          · replace w := w.2 z
            refine zm_aload_n C rfl 0 rfl dX9_readDictionary_238 ?_
            refine zm_bipush (v := nI 6) C (by decide) dX9_readDictionary_239 ?_
            refine zm_put C ff_X9_58 ft_X9 fp_X9_9_17 rfl rfl dX9_readDictionary_241 w (fun h12 w => ?_)
            refine zm_iconst (v := nI 0) C (by decide) dX9_readDictionary_244 ?_
            refine zm_istore (L' := [(0, .ref a0), (1, .int i1), (4, .int v32), (5, .int (nI 0))]) C (by decide) [1, 2, 3, 0] dX9_readDictionary_245 rfl ?_
            exact zm_loc [0, 1, 3] rfl w
      · replace w := w.2 z
        exact zm_return C Rt (by show nc ≤ 0; omega) (by show ns ≤ 0; omega) dX9_readDictionary_183 w
  · replace w := w.2 z
    refine zm_aload_n C rfl 0 rfl dX9_readDictionary_113 ?_
    refine zm_getR C ff_X9_25 dX9_readDictionary_114 w (fun v39 w => ?_)
    refine zm_iload C 2 rfl dX9_readDictionary_117 ?_
    refine zm_aload_n C rfl 0 rfl dX9_readDictionary_119 ?_
    refine zm_getR C ff_X9_22 dX9_readDictionary_120 w (fun v40 w => ?_)
    refine zm_iload C 2 rfl dX9_readDictionary_123 ?_
    refine zm_ldI C dX9_readDictionary_125 w (fun v41 w => ?_)
    refine zm_stI C dX9_readDictionary_126 w (fun h13 w => ?_)
    refine zm_iinc (L' := [(0, .ref a0), (1, .int i1), (4, .int (i4 + (nI 1)))]) C (by decide) 2 [1, 2, 0] dX9_readDictionary_127 rfl rfl rfl ?_
    refine zm_goto (tgt := 99) C dX9_readDictionary_130 (by decide) ?_
    exact w
set_option maxRecDepth 20000 in
theorem B_X9_readDictionary_247 {E : zm_E} {K : zm_K} {Post : zm_Po} {nc ns : Nat} (C : zm_Cx E K cX9_readDictionary RX9 4 84 0 0 10) (Rt : zm_Rt E Post 0 0 none) {a0 : Nat} {i1 : Int32} {i5 : Int32} {h : zm_H} (hnc : nc ≤ 0) (hns : ns ≤ 0) (w : (i1 ≤ i5 → Post none h) ∧ (¬ i1 ≤ i5 → zm_gI h a0 9 17 fun v1 => (¬ v1 = 0 → Post none h) ∧ (v1 = 0 → zm_gR h a0 9 20 fun v2 => zm_ld K 1 h v2 i5 fun v3 => (v3 < 0 → ((nI 0) = 0 → zm_Go E nc ns 316 [(0, .ref a0), (1, .int i1), (5, .int i5), (6, .int v3), (7, .int (nI 0))] [.int (nI 0)] h) ∧ (¬ (nI 0) = 0 → zm_gR h a0 9 3 fun v4 => zm_ld K 1 h v4 (v3 + (nI 1)) fun v5 => zm_gR h a0 9 3 fun v6 => zm_ld K 1 h v6 v3 fun v7 => zm_Go E nc ns 316 [(0, .ref a0), (1, .int i1), (5, .int i5), (6, .int v3), (7, .int (nI 0))] [.int (v5 - v7)] h)) ∧ (¬ v3 < 0 → zm_gI h a0 9 9 fun v8 => (v8 ≤ v3 → ((nI 0) = 0 → zm_Go E nc ns 316 [(0, .ref a0), (1, .int i1), (5, .int i5), (6, .int v3), (7, .int (nI 0))] [.int (nI 0)] h) ∧ (¬ (nI 0) = 0 → zm_gR h a0 9 3 fun v9 => zm_ld K 1 h v9 (v3 + (nI 1)) fun v10 => zm_gR h a0 9 3 fun v11 => zm_ld K 1 h v11 v3 fun v12 => zm_Go E nc ns 316 [(0, .ref a0), (1, .int i1), (5, .int i5), (6, .int v3), (7, .int (nI 0))] [.int (v10 - v12)] h)) ∧ (¬ v8 ≤ v3 → ((nI 1) = 0 → zm_Go E nc ns 316 [(0, .ref a0), (1, .int i1), (5, .int i5), (6, .int v3), (7, .int (nI 1))] [.int (nI 0)] h) ∧ (¬ (nI 1) = 0 → zm_gR h a0 9 3 fun v13 => zm_ld K 1 h v13 (v3 + (nI 1)) fun v14 => zm_gR h a0 9 3 fun v15 => zm_ld K 1 h v15 v3 fun v16 => zm_Go E nc ns 316 [(0, .ref a0), (1, .int i1), (5, .int i5), (6, .int v3), (7, .int (nI 1))] [.int (v14 - v16)] h)))))) : zm_Go E nc ns 247 [(0, .ref a0), (1, .int i1), (5, .int i5)] [] h := by
  refine zm_iload C 2 rfl dX9_readDictionary_247 ?_
  refine zm_iload_n C rfl 1 rfl dX9_readDictionary_249 ?_
  refine zm_icmp_ge (tgt := 435) C dX9_readDictionary_250 (by decide) (fun z => ?_) (fun z => ?_)
  · replace w := w.1 z
    exact zm_return C Rt (by show nc ≤ 0; omega) (by show ns ≤ 0; omega) dX9_readDictionary_435 w
  · replace w := w.2 z
    refine zm_aload_n C rfl 0 rfl dX9_readDictionary_253 ?_
    refine zm_getI C ff_X9_58 dX9_readDictionary_254 w (fun v1 w => ?_)
    refine zm_if_ne (tgt := 435) C dX9_readDictionary_257 (by decide) (fun z => ?_) (fun z => ?_)
    · replace w := w.1 z
      exact zm_return C Rt (by show nc ≤ 0; omega) (by show ns ≤ 0; omega) dX9_readDictionary_435 w
    · replace w := w.2 z
      refine zm_aload_n C rfl 0 rfl dX9_readDictionary_260 ?_
      refine zm_getR C ff_X9_42 dX9_readDictionary_261 w (fun v2 w => ?_)
      refine zm_iload C 2 rfl dX9_readDictionary_264 ?_
      refine zm_ldI C dX9_readDictionary_266 w (fun v3 w => ?_)
      refine zm_istore (L' := [(0, .ref a0), (1, .int i1), (5, .int i5), (6, .int v3)]) C (by decide) [1, 2, 3, 0] dX9_readDictionary_267 rfl ?_
      refine zm_iload C 3 rfl dX9_readDictionary_269 ?_
      refine zm_if_lt (tgt := 287) C dX9_readDictionary_271 (by decide) (fun z => ?_) (fun z => ?_)
      · replace w := w.1 z
        refine zm_iconst (v := nI 0) C (by decide) dX9_readDictionary_287 ?_
        refine zm_istore (L' := [(0, .ref a0), (1, .int i1), (5, .int i5), (6, .int v3), (7, .int (nI 0))]) C (by decide) [1, 2, 3, 4, 0] dX9_readDictionary_288 rfl ?_
        refine zm_iload C 4 rfl dX9_readDictionary_290 ?_
        refine zm_if_eq (tgt := 315) C dX9_readDictionary_292 (by decide) (fun z => ?_) (fun z => ?_)
        · replace w := w.1 z
          refine zm_iconst (v := nI 0) C (by decide) dX9_readDictionary_315 ?_
          exact w
        · replace w := w.2 z
          refine zm_aload_n C rfl 0 rfl dX9_readDictionary_295 ?_
          refine zm_getR C ff_X9_16 dX9_readDictionary_296 w (fun v4 w => ?_)
          refine zm_iload C 3 rfl dX9_readDictionary_299 ?_
          refine zm_iconst (v := nI 1) C (by decide) dX9_readDictionary_301 ?_
          refine zm_iadd C dX9_readDictionary_302 ?_
          refine zm_ldI C dX9_readDictionary_303 w (fun v5 w => ?_)
          refine zm_aload_n C rfl 0 rfl dX9_readDictionary_304 ?_
          refine zm_getR C ff_X9_16 dX9_readDictionary_305 w (fun v6 w => ?_)
          refine zm_iload C 3 rfl dX9_readDictionary_308 ?_
          refine zm_ldI C dX9_readDictionary_310 w (fun v7 w => ?_)
          refine zm_isub C dX9_readDictionary_311 ?_
          refine zm_goto (tgt := 316) C dX9_readDictionary_312 (by decide) ?_
          exact w
      · replace w := w.2 z
        refine zm_iload C 3 rfl dX9_readDictionary_274 ?_
        refine zm_aload_n C rfl 0 rfl dX9_readDictionary_276 ?_
        refine zm_getI C ff_X9_190 dX9_readDictionary_277 w (fun v8 w => ?_)
        refine zm_icmp_ge (tgt := 287) C dX9_readDictionary_280 (by decide) (fun z => ?_) (fun z => ?_)
        · replace w := w.1 z
          refine zm_iconst (v := nI 0) C (by decide) dX9_readDictionary_287 ?_
          refine zm_istore (L' := [(0, .ref a0), (1, .int i1), (5, .int i5), (6, .int v3), (7, .int (nI 0))]) C (by decide) [1, 2, 3, 4, 0] dX9_readDictionary_288 rfl ?_
          refine zm_iload C 4 rfl dX9_readDictionary_290 ?_
          refine zm_if_eq (tgt := 315) C dX9_readDictionary_292 (by decide) (fun z => ?_) (fun z => ?_)
          · replace w := w.1 z
            refine zm_iconst (v := nI 0) C (by decide) dX9_readDictionary_315 ?_
            exact w
          · replace w := w.2 z
            refine zm_aload_n C rfl 0 rfl dX9_readDictionary_295 ?_
            refine zm_getR C ff_X9_16 dX9_readDictionary_296 w (fun v9 w => ?_)
            refine zm_iload C 3 rfl dX9_readDictionary_299 ?_
            refine zm_iconst (v := nI 1) C (by decide) dX9_readDictionary_301 ?_
            refine zm_iadd C dX9_readDictionary_302 ?_
            refine zm_ldI C dX9_readDictionary_303 w (fun v10 w => ?_)
            refine zm_aload_n C rfl 0 rfl dX9_readDictionary_304 ?_
            refine zm_getR C ff_X9_16 dX9_readDictionary_305 w (fun v11 w => ?_)
            refine zm_iload C 3 rfl dX9_readDictionary_308 ?_
            refine zm_ldI C dX9_readDictionary_310 w (fun v12 w => ?_)
            refine zm_isub C dX9_readDictionary_311 ?_
            refine zm_goto (tgt := 316) C dX9_readDictionary_312 (by decide) ?_
            exact w
        · replace w := w.2 z
          refine zm_iconst (v := nI 1) C (by decide) dX9_readDictionary_283 ?_
          refine zm_goto (tgt := 288) C dX9_readDictionary_284 (by decide) ?_
          refine zm_istore (L' := [(0, .ref a0), (1, .int i1), (5, .int i5), (6, .int v3), (7, .int (nI 1))]) C (by decide) [1, 2, 3, 4, 0] dX9_readDictionary_288 rfl ?_
          refine zm_iload C 4 rfl dX9_readDictionary_290 ?_
          refine zm_if_eq (tgt := 315) C dX9_readDictionary_292 (by decide) (fun z => ?_) (fun z => ?_)
          · replace w := w.1 z
            refine zm_iconst (v := nI 0) C (by decide) dX9_readDictionary_315 ?_
            exact w
          · replace w := w.2 z
            refine zm_aload_n C rfl 0 rfl dX9_readDictionary_295 ?_
            refine zm_getR C ff_X9_16 dX9_readDictionary_296 w (fun v13 w => ?_)
            refine zm_iload C 3 rfl dX9_readDictionary_299 ?_
            refine zm_iconst (v := nI 1) C (by decide) dX9_readDictionary_301 ?_
            refine zm_iadd C dX9_readDictionary_302 ?_
            refine zm_ldI C dX9_readDictionary_303 w (fun v14 w => ?_)
            refine zm_aload_n C rfl 0 rfl dX9_readDictionary_304 ?_
            refine zm_getR C ff_X9_16 dX9_readDictionary_305 w (fun v15 w => ?_)
            refine zm_iload C 3 rfl dX9_readDictionary_308 ?_
            refine zm_ldI C dX9_readDictionary_310 w (fun v16 w => ?_)
            refine zm_isub C dX9_readDictionary_311 ?_
            refine zm_goto (tgt := 316) C dX9_readDictionary_312 (by decide) ?_
            exact w
set_option maxRecDepth 20000 in
theorem B_X9_readDictionary_316 {E : zm_E} {K : zm_K} {Post : zm_Po} {nc ns : Nat} (C : zm_Cx E K cX9_readDictionary RX9 4 84 0 0 10) (Rt : zm_Rt E Post 0 0 none) {a0 : Nat} {i1 : Int32} {i5 : Int32} {i6 : Int32} {i7 : Int32} {s0 : Int32} {h : zm_H} (w : (i7 = 0 → zm_Go E nc ns 341 [(0, .ref a0)] [] h) ∧ (¬ i7 = 0 → zm_gR h a0 9 2 fun v1 => zm_gI h a0 9 8 fun v2 => zm_ld K 1 h v1 v2 fun v3 => ((v3 + s0) ≤ (nI 20000) → zm_Go E nc ns 351 [(0, .ref a0), (1, .int i1), (5, .int i5), (6, .int i6), (8, .int s0), (9, .int (nI 0))] [] h) ∧ (¬ (v3 + s0) ≤ (nI 20000) → zm_Go E nc ns 341 [(0, .ref a0)] [] h))) : zm_Go E nc ns 316 [(0, .ref a0), (1, .int i1), (5, .int i5), (6, .int i6), (7, .int i7)] [.int s0] h := by
  refine zm_istore (L' := [(0, .ref a0), (1, .int i1), (5, .int i5), (6, .int i6), (7, .int i7), (8, .int s0)]) C (by decide) [1, 2, 3, 4, 5, 0] dX9_readDictionary_316 rfl ?_
  refine zm_iload C 4 rfl dX9_readDictionary_318 ?_
  refine zm_if_eq (tgt := 341) C dX9_readDictionary_320 (by decide) (fun z => ?_) (fun z => ?_)
  · replace w := w.1 z
    exact zm_loc [0] rfl w
  · replace w := w.2 z
    refine zm_aload_n C rfl 0 rfl dX9_readDictionary_323 ?_
    refine zm_getR C ff_X9_13 dX9_readDictionary_324 w (fun v1 w => ?_)
    refine zm_aload_n C rfl 0 rfl dX9_readDictionary_327 ?_
    refine zm_getI C ff_X9_171 dX9_readDictionary_328 w (fun v2 w => ?_)
    refine zm_ldI C dX9_readDictionary_331 w (fun v3 w => ?_)
    refine zm_iload C 5 rfl dX9_readDictionary_332 ?_
    refine zm_iadd C dX9_readDictionary_334 ?_
    refine zm_sipush (v := nI 20000) C (by decide) dX9_readDictionary_335 ?_
    refine zm_icmp_le (tgt := 348) C dX9_readDictionary_338 (by decide) (fun z => ?_) (fun z => ?_)
    · replace w := w.1 z
      refine zm_iconst (v := nI 0) C (by decide) dX9_readDictionary_348 ?_
      refine zm_istore (L' := [(0, .ref a0), (1, .int i1), (5, .int i5), (6, .int i6), (7, .int i7), (8, .int s0), (9, .int (nI 0))]) C (by decide) [1, 2, 3, 4, 5, 6, 0] dX9_readDictionary_349 rfl ?_
      exact zm_loc [0, 1, 2, 3, 5, 6] rfl w
    · replace w := w.2 z
      exact zm_loc [0] rfl w
set_option maxRecDepth 20000 in
theorem B_X9_readDictionary_341 {E : zm_E} {K : zm_K} {Post : zm_Po} {nc ns : Nat} (C : zm_Cx E K cX9_readDictionary RX9 4 84 0 0 10) (Rt : zm_Rt E Post 0 0 none) {a0 : Nat} {h : zm_H} (hnc : nc ≤ 0) (hns : ns ≤ 0) (w : zm_pf h a0 9 17 (.int (nI 7)) fun h1 => Post none h1) : zm_Go E nc ns 341 [(0, .ref a0)] [] h := by
  refine zm_aload_n C rfl 0 rfl dX9_readDictionary_341 ?_
  refine zm_bipush (v := nI 7) C (by decide) dX9_readDictionary_342 ?_
  refine zm_put C ff_X9_58 ft_X9 fp_X9_9_17 rfl rfl dX9_readDictionary_344 w (fun h1 w => ?_)
  exact zm_return C Rt (by show nc ≤ 0; omega) (by show ns ≤ 0; omega) dX9_readDictionary_347 w
set_option maxRecDepth 20000 in
theorem B_X9_readDictionary_351 {E : zm_E} {K : zm_K} {Post : zm_Po} {nc ns : Nat} (C : zm_Cx E K cX9_readDictionary RX9 4 84 0 0 10) (Rt : zm_Rt E Post 0 0 none) {a0 : Nat} {i1 : Int32} {i5 : Int32} {i6 : Int32} {i8 : Int32} {i9 : Int32} {h : zm_H} (w : (i8 ≤ i9 → zm_gI h a0 9 8 fun v1 => zm_pf h a0 9 8 (.int (v1 + (nI 1))) fun h1 => zm_gR h1 a0 9 2 fun v2 => zm_gI h1 a0 9 8 fun v3 => zm_gR h1 a0 9 2 fun v4 => zm_gI h1 a0 9 8 fun v5 => zm_ld K 1 h1 v4 (v5 - (nI 1)) fun v6 => zm_sI K h1 v2 v3 (v6 + i8) fun h2 => zm_Go E nc ns 247 [(0, .ref a0), (1, .int i1), (5, .int (i5 + (nI 1)))] [] h2) ∧ (¬ i8 ≤ i9 → zm_gR h a0 9 5 fun v7 => zm_gR h a0 9 2 fun v8 => zm_gI h a0 9 8 fun v9 => zm_ld K 1 h v8 v9 fun v10 => zm_gR h a0 9 6 fun v11 => zm_gR h a0 9 3 fun v12 => zm_ld K 1 h v12 i6 fun v13 => zm_ld K 1 h v11 (v13 + i9) fun v14 => zm_sI K h v7 (v10 + i9) v14 fun h3 => zm_Go E nc ns 351 [(0, .ref a0), (1, .int i1), (5, .int i5), (6, .int i6), (8, .int i8), (9, .int (i9 + (nI 1)))] [] h3)) : zm_Go E nc ns 351 [(0, .ref a0), (1, .int i1), (5, .int i5), (6, .int i6), (8, .int i8), (9, .int i9)] [] h := by
  refine zm_iload C 5 rfl dX9_readDictionary_351 ?_
  refine zm_iload C 4 rfl dX9_readDictionary_353 ?_
  refine zm_icmp_ge (tgt := 396) C dX9_readDictionary_355 (by decide) (fun z => ?_) (fun z => ?_)
  · replace w := w.1 z
    refine zm_aload_n C rfl 0 rfl dX9_readDictionary_396 ?_
    refine zm_dup C rfl dX9_readDictionary_397 ?_
    refine zm_getI C ff_X9_171 dX9_readDictionary_398 w (fun v1 w => ?_)
    refine zm_iconst (v := nI 1) C (by decide) dX9_readDictionary_401 ?_
    refine zm_iadd C dX9_readDictionary_402 ?_
    refine zm_put C ff_X9_171 ft_X9 fp_X9_9_8 rfl rfl dX9_readDictionary_403 w (fun h1 w => ?_)
    refine zm_aload_n C rfl 0 rfl dX9_readDictionary_406 ?_
    refine zm_getR C ff_X9_13 dX9_readDictionary_407 w (fun v2 w => ?_)
    refine zm_aload_n C rfl 0 rfl dX9_readDictionary_410 ?_
    refine zm_getI C ff_X9_171 dX9_readDictionary_411 w (fun v3 w => ?_)
    refine zm_aload_n C rfl 0 rfl dX9_readDictionary_414 ?_
    refine zm_getR C ff_X9_13 dX9_readDictionary_415 w (fun v4 w => ?_)
    refine zm_aload_n C rfl 0 rfl dX9_readDictionary_418 ?_
    refine zm_getI C ff_X9_171 dX9_readDictionary_419 w (fun v5 w => ?_)
    refine zm_iconst (v := nI 1) C (by decide) dX9_readDictionary_422 ?_
    refine zm_isub C dX9_readDictionary_423 ?_
    refine zm_ldI C dX9_readDictionary_424 w (fun v6 w => ?_)
    refine zm_iload C 4 rfl dX9_readDictionary_425 ?_
    refine zm_iadd C dX9_readDictionary_427 ?_
    refine zm_stI C dX9_readDictionary_428 w (fun h2 w => ?_)
    refine zm_iinc (L' := [(0, .ref a0), (1, .int i1), (5, .int (i5 + (nI 1))), (6, .int i6), (8, .int i8), (9, .int i9)]) C (by decide) 2 [1, 2, 0, 3, 4, 5] dX9_readDictionary_429 rfl rfl rfl ?_
    refine zm_goto (tgt := 247) C dX9_readDictionary_432 (by decide) ?_
    exact zm_loc [0, 1, 2] rfl w
  · replace w := w.2 z
    refine zm_aload_n C rfl 0 rfl dX9_readDictionary_358 ?_
    refine zm_getR C ff_X9_22 dX9_readDictionary_359 w (fun v7 w => ?_)
    refine zm_aload_n C rfl 0 rfl dX9_readDictionary_362 ?_
    refine zm_getR C ff_X9_13 dX9_readDictionary_363 w (fun v8 w => ?_)
    refine zm_aload_n C rfl 0 rfl dX9_readDictionary_366 ?_
    refine zm_getI C ff_X9_171 dX9_readDictionary_367 w (fun v9 w => ?_)
    refine zm_ldI C dX9_readDictionary_370 w (fun v10 w => ?_)
    refine zm_iload C 5 rfl dX9_readDictionary_371 ?_
    refine zm_iadd C dX9_readDictionary_373 ?_
    refine zm_aload_n C rfl 0 rfl dX9_readDictionary_374 ?_
    refine zm_getR C ff_X9_25 dX9_readDictionary_375 w (fun v11 w => ?_)
    refine zm_aload_n C rfl 0 rfl dX9_readDictionary_378 ?_
    refine zm_getR C ff_X9_16 dX9_readDictionary_379 w (fun v12 w => ?_)
    refine zm_iload C 3 rfl dX9_readDictionary_382 ?_
    refine zm_ldI C dX9_readDictionary_384 w (fun v13 w => ?_)
    refine zm_iload C 5 rfl dX9_readDictionary_385 ?_
    refine zm_iadd C dX9_readDictionary_387 ?_
    refine zm_ldI C dX9_readDictionary_388 w (fun v14 w => ?_)
    refine zm_stI C dX9_readDictionary_389 w (fun h3 w => ?_)
    refine zm_iinc (L' := [(0, .ref a0), (1, .int i1), (5, .int i5), (6, .int i6), (8, .int i8), (9, .int (i9 + (nI 1)))]) C (by decide) 5 [1, 2, 3, 4, 5, 0] dX9_readDictionary_390 rfl rfl rfl ?_
    refine zm_goto (tgt := 351) C dX9_readDictionary_393 (by decide) ?_
    exact w
set_option maxRecDepth 20000 in
theorem B_X9_read_0 {E : zm_E} {K : zm_K} {Post : zm_Po} {nc ns : Nat} (C : zm_Cx E K cX9_read RX9 5 113 0 0 4) (Rt : zm_Rt E Post 0 0 (some .int)) {a0 : Nat} {i1 : Int32} {i2 : Int32} {h : zm_H} (hnc : nc ≤ 0) (hns : ns ≤ 0) (w : zm_pf h a0 9 0 (.int (nI 0)) fun h1 => (i1 < 0 → zm_Go E nc ns 25 [] [] h1) ∧ (¬ i1 < 0 → ((nI 3) < i1 → zm_Go E nc ns 25 [] [] h1) ∧ (¬ (nI 3) < i1 → (i2 < 0 → zm_Go E nc ns 25 [] [] h1) ∧ (¬ i2 < 0 → (i2 ≤ (nI 1000) → zm_pf h1 a0 9 16 (.int (nI 0)) fun h2 => zm_pf h2 a0 9 17 (.int (nI 0)) fun h3 => zm_pf h3 a0 9 8 (.int (nI 0)) fun h4 => (¬ i1 = 0 → (¬ i1 = (nI 1) → (¬ i1 = (nI 2) → zm_rc h4 a0 9 ∧ zm_cv K M_X9_readDictionary [.ref a0, .int i2] h4 fun h5 => zm_Go E nc ns 85 [(0, .ref a0), (2, .int i2)] [] h5) ∧ (i1 = (nI 2) → zm_rc h4 a0 9 ∧ zm_cv K M_X9_readFront [.ref a0, .int i2] h4 fun h6 => zm_Go E nc ns 85 [(0, .ref a0), (2, .int i2)] [] h6)) ∧ (i1 = (nI 1) → zm_rc h4 a0 9 ∧ zm_cv K M_X9_readLengths [.ref a0, .int i2] h4 fun h7 => zm_Go E nc ns 85 [(0, .ref a0), (2, .int i2)] [] h7)) ∧ (i1 = 0 → zm_rc h4 a0 9 ∧ zm_cv K M_X9_readPlain [.ref a0, .int i2] h4 fun h8 => zm_Go E nc ns 85 [(0, .ref a0), (2, .int i2)] [] h8)) ∧ (¬ i2 ≤ (nI 1000) → zm_Go E nc ns 25 [] [] h1))))) : zm_Go E nc ns 0 [(0, .ref a0), (1, .int i1), (2, .int i2)] [] h := by
  refine zm_aload_n C rfl 0 rfl dX9_read_0 ?_
  refine zm_iconst (v := nI 0) C (by decide) dX9_read_1 ?_
  refine zm_put C ff_X9_51 ft_X9 fp_X9_9_0 rfl rfl dX9_read_2 w (fun h1 w => ?_)
  refine zm_iload_n C rfl 1 rfl dX9_read_5 ?_
  refine zm_if_lt (tgt := 25) C dX9_read_6 (by decide) (fun z => ?_) (fun z => ?_)
  · replace w := w.1 z
    exact zm_loc [] rfl w
  · replace w := w.2 z
    refine zm_iload_n C rfl 1 rfl dX9_read_9 ?_
    refine zm_iconst (v := nI 3) C (by decide) dX9_read_10 ?_
    refine zm_icmp_gt (tgt := 25) C dX9_read_11 (by decide) (fun z => ?_) (fun z => ?_)
    · replace w := w.1 z
      exact zm_loc [] rfl w
    · replace w := w.2 z
      refine zm_iload_n C rfl 2 rfl dX9_read_14 ?_
      refine zm_if_lt (tgt := 25) C dX9_read_15 (by decide) (fun z => ?_) (fun z => ?_)
      · replace w := w.1 z
        exact zm_loc [] rfl w
      · replace w := w.2 z
        refine zm_iload_n C rfl 2 rfl dX9_read_18 ?_
        refine zm_sipush (v := nI 1000) C (by decide) dX9_read_19 ?_
        refine zm_icmp_le (tgt := 27) C dX9_read_22 (by decide) (fun z => ?_) (fun z => ?_)
        · replace w := w.1 z
          refine zm_aload_n C rfl 0 rfl dX9_read_27 ?_
          refine zm_iconst (v := nI 0) C (by decide) dX9_read_28 ?_
          refine zm_put C ff_X9_61 ft_X9 fp_X9_9_16 rfl rfl dX9_read_29 w (fun h2 w => ?_)
          refine zm_aload_n C rfl 0 rfl dX9_read_32 ?_
          refine zm_iconst (v := nI 0) C (by decide) dX9_read_33 ?_
          refine zm_put C ff_X9_58 ft_X9 fp_X9_9_17 rfl rfl dX9_read_34 w (fun h3 w => ?_)
          refine zm_aload_n C rfl 0 rfl dX9_read_37 ?_
          refine zm_iconst (v := nI 0) C (by decide) dX9_read_38 ?_
          refine zm_put C ff_X9_171 ft_X9 fp_X9_9_8 rfl rfl dX9_read_39 w (fun h4 w => ?_)
          refine zm_iload_n C rfl 1 rfl dX9_read_42 ?_
          refine zm_if_ne (tgt := 54) C dX9_read_43 (by decide) (fun z => ?_) (fun z => ?_)
          · replace w := w.1 z
            refine zm_iload_n C rfl 1 rfl dX9_read_54 ?_
            refine zm_iconst (v := nI 1) C (by decide) dX9_read_55 ?_
            refine zm_icmp_ne (tgt := 67) C dX9_read_56 (by decide) (fun z => ?_) (fun z => ?_)
            · replace w := w.1 z
              refine zm_iload_n C rfl 1 rfl dX9_read_67 ?_
              refine zm_iconst (v := nI 2) C (by decide) dX9_read_68 ?_
              refine zm_icmp_ne (tgt := 80) C dX9_read_69 (by decide) (fun z => ?_) (fun z => ?_)
              · replace w := w.1 z
                refine zm_aload_n C rfl 0 rfl dX9_read_80 ?_
                refine zm_iload_n C rfl 2 rfl dX9_read_81 ?_
                obtain ⟨wr, w⟩ := w
                refine zm_Vv (As := [.int i2]) (rest := []) C M_X9_readDictionary sv_X9_203 rfl dX9_read_82 rfl (Nat.le_of_ble_eq_true rfl) (by decide) (by decide) (by show nc + 0 ≤ 0; omega) (by show ns + 0 ≤ 0; omega) wr w (fun h5 w => ?_)
                exact zm_loc [0, 2] rfl w
              · replace w := w.2 z
                refine zm_aload_n C rfl 0 rfl dX9_read_72 ?_
                refine zm_iload_n C rfl 2 rfl dX9_read_73 ?_
                obtain ⟨wr, w⟩ := w
                refine zm_Vv (As := [.int i2]) (rest := []) C M_X9_readFront sv_X9_200 rfl dX9_read_74 rfl (Nat.le_of_ble_eq_true rfl) (by decide) (by decide) (by show nc + 0 ≤ 0; omega) (by show ns + 0 ≤ 0; omega) wr w (fun h6 w => ?_)
                refine zm_goto (tgt := 85) C dX9_read_77 (by decide) ?_
                exact zm_loc [0, 2] rfl w
            · replace w := w.2 z
              refine zm_aload_n C rfl 0 rfl dX9_read_59 ?_
              refine zm_iload_n C rfl 2 rfl dX9_read_60 ?_
              obtain ⟨wr, w⟩ := w
              refine zm_Vv (As := [.int i2]) (rest := []) C M_X9_readLengths sv_X9_197 rfl dX9_read_61 rfl (Nat.le_of_ble_eq_true rfl) (by decide) (by decide) (by show nc + 0 ≤ 0; omega) (by show ns + 0 ≤ 0; omega) wr w (fun h7 w => ?_)
              refine zm_goto (tgt := 85) C dX9_read_64 (by decide) ?_
              exact zm_loc [0, 2] rfl w
          · replace w := w.2 z
            refine zm_aload_n C rfl 0 rfl dX9_read_46 ?_
            refine zm_iload_n C rfl 2 rfl dX9_read_47 ?_
            obtain ⟨wr, w⟩ := w
            refine zm_Vv (As := [.int i2]) (rest := []) C M_X9_readPlain sv_X9_187 rfl dX9_read_48 rfl (Nat.le_of_ble_eq_true rfl) (by decide) (by decide) (by show nc + 0 ≤ 0; omega) (by show ns + 0 ≤ 0; omega) wr w (fun h8 w => ?_)
            refine zm_goto (tgt := 85) C dX9_read_51 (by decide) ?_
            exact zm_loc [0, 2] rfl w
        · replace w := w.2 z
          exact zm_loc [] rfl w
set_option maxRecDepth 20000 in
theorem B_X9_read_25 {E : zm_E} {K : zm_K} {Post : zm_Po} {nc ns : Nat} (C : zm_Cx E K cX9_read RX9 5 113 0 0 4) (Rt : zm_Rt E Post 0 0 (some .int))  {h : zm_H} (hnc : nc ≤ 0) (hns : ns ≤ 0) (w : Post (some (.int (-1))) h) : zm_Go E nc ns 25 [] [] h := by
  refine zm_iconst (v := (-1)) C (by decide) dX9_read_25 ?_
  exact zm_ireturn C Rt (by show nc ≤ 0; omega) (by show ns ≤ 0; omega) rfl dX9_read_26 w
set_option maxRecDepth 20000 in
theorem B_X9_read_85 {E : zm_E} {K : zm_K} {Post : zm_Po} {nc ns : Nat} (C : zm_Cx E K cX9_read RX9 5 113 0 0 4) (Rt : zm_Rt E Post 0 0 (some .int)) {a0 : Nat} {i2 : Int32} {h : zm_H} (w : zm_gI h a0 9 17 fun v1 => (¬ v1 = 0 → zm_Go E nc ns 109 [(0, .ref a0), (2, .int i2)] [] h) ∧ (v1 = 0 → zm_gI h a0 9 16 fun v2 => zm_gI h a0 9 14 fun v3 => (v3 ≤ v2 → zm_Go E nc ns 109 [(0, .ref a0), (2, .int i2)] [] h) ∧ (¬ v3 ≤ v2 → zm_pf h a0 9 17 (.int (nI 6)) fun h1 => zm_Go E nc ns 109 [(0, .ref a0), (2, .int i2)] [] h1))) : zm_Go E nc ns 85 [(0, .ref a0), (2, .int i2)] [] h := by
  refine zm_aload_n C rfl 0 rfl dX9_read_85 ?_
  refine zm_getI C ff_X9_58 dX9_read_86 w (fun v1 w => ?_)
  refine zm_if_ne (tgt := 109) C dX9_read_89 (by decide) (fun z => ?_) (fun z => ?_)
  · replace w := w.1 z
    exact w
  · replace w := w.2 z
    refine zm_aload_n C rfl 0 rfl dX9_read_92 ?_
    refine zm_getI C ff_X9_61 dX9_read_93 w (fun v2 w => ?_)
    refine zm_aload_n C rfl 0 rfl dX9_read_96 ?_
    refine zm_getI C ff_X9_120 dX9_read_97 w (fun v3 w => ?_)
    refine zm_icmp_ge (tgt := 109) C dX9_read_100 (by decide) (fun z => ?_) (fun z => ?_)
    · replace w := w.1 z
      exact w
    · replace w := w.2 z
      refine zm_aload_n C rfl 0 rfl dX9_read_103 ?_
      refine zm_bipush (v := nI 6) C (by decide) dX9_read_104 ?_
      refine zm_put C ff_X9_58 ft_X9 fp_X9_9_17 rfl rfl dX9_read_106 w (fun h1 w => ?_)
      exact w
set_option maxRecDepth 20000 in
theorem B_X9_read_109 {E : zm_E} {K : zm_K} {Post : zm_Po} {nc ns : Nat} (C : zm_Cx E K cX9_read RX9 5 113 0 0 4) (Rt : zm_Rt E Post 0 0 (some .int)) {a0 : Nat} {i2 : Int32} {h : zm_H} (hnc : nc ≤ 0) (hns : ns ≤ 0) (w : zm_gI h a0 9 17 fun v1 => (v1 = 0 → zm_pf h a0 9 7 (.int i2) fun h1 => zm_Go E nc ns 128 [(0, .ref a0), (2, .int i2), (3, .int (nI 0))] [] h1) ∧ (¬ v1 = 0 → zm_gI h a0 9 17 fun v2 => Post (some (.int v2)) h)) : zm_Go E nc ns 109 [(0, .ref a0), (2, .int i2)] [] h := by
  refine zm_aload_n C rfl 0 rfl dX9_read_109 ?_
  refine zm_getI C ff_X9_58 dX9_read_110 w (fun v1 w => ?_)
  refine zm_if_eq (tgt := 121) C dX9_read_113 (by decide) (fun z => ?_) (fun z => ?_)
  · replace w := w.1 z
    refine zm_aload_n C rfl 0 rfl dX9_read_121 ?_
    refine zm_iload_n C rfl 1 rfl dX9_read_122 ?_
    refine zm_put C ff_X9_135 ft_X9 fp_X9_9_7 rfl rfl dX9_read_123 w (fun h1 w => ?_)
    refine zm_iconst (v := nI 0) C (by decide) dX9_read_126 ?_
    refine zm_istore_n (L' := [(0, .ref a0), (2, .int i2), (3, .int (nI 0))]) C rfl (by decide) [1, 2, 0] dX9_read_127 rfl ?_
    exact w
  · replace w := w.2 z
    refine zm_aload_n C rfl 0 rfl dX9_read_116 ?_
    refine zm_getI C ff_X9_58 dX9_read_117 w (fun v2 w => ?_)
    exact zm_ireturn C Rt (by show nc ≤ 0; omega) (by show ns ≤ 0; omega) rfl dX9_read_120 w
set_option maxRecDepth 20000 in
theorem B_X9_read_128 {E : zm_E} {K : zm_K} {Post : zm_Po} {nc ns : Nat} (C : zm_Cx E K cX9_read RX9 5 113 0 0 4) (Rt : zm_Rt E Post 0 0 (some .int)) {a0 : Nat} {i2 : Int32} {i3 : Int32} {h : zm_H} (w : (i2 < i3 → zm_Go E nc ns 153 [(0, .ref a0), (2, .int i2), (3, .int (nI 0))] [] h) ∧ (¬ i2 < i3 → zm_gR h a0 9 1 fun v1 => zm_gR h a0 9 2 fun v2 => zm_ld K 1 h v2 i3 fun v3 => zm_sI K h v1 i3 v3 fun h1 => zm_Go E nc ns 128 [(0, .ref a0), (2, .int i2), (3, .int (i3 + (nI 1)))] [] h1)) : zm_Go E nc ns 128 [(0, .ref a0), (2, .int i2), (3, .int i3)] [] h := by
  refine zm_iload_n C rfl 2 rfl dX9_read_128 ?_
  refine zm_iload_n C rfl 1 rfl dX9_read_129 ?_
  refine zm_icmp_gt (tgt := 151) C dX9_read_130 (by decide) (fun z => ?_) (fun z => ?_)
  · replace w := w.1 z
    refine zm_iconst (v := nI 0) C (by decide) dX9_read_151 ?_
    refine zm_istore_n (L' := [(0, .ref a0), (2, .int i2), (3, .int (nI 0))]) C rfl (by decide) [1, 2, 0] dX9_read_152 rfl ?_
    exact w
  · replace w := w.2 z
    refine zm_aload_n C rfl 0 rfl dX9_read_133 ?_
    refine zm_getR C ff_X9_7 dX9_read_134 w (fun v1 w => ?_)
    refine zm_iload_n C rfl 2 rfl dX9_read_137 ?_
    refine zm_aload_n C rfl 0 rfl dX9_read_138 ?_
    refine zm_getR C ff_X9_13 dX9_read_139 w (fun v2 w => ?_)
    refine zm_iload_n C rfl 2 rfl dX9_read_142 ?_
    refine zm_ldI C dX9_read_143 w (fun v3 w => ?_)
    refine zm_stI C dX9_read_144 w (fun h1 w => ?_)
    refine zm_iinc (L' := [(0, .ref a0), (2, .int i2), (3, .int (i3 + (nI 1)))]) C (by decide) 2 [1, 2, 0] dX9_read_145 rfl rfl rfl ?_
    refine zm_goto (tgt := 128) C dX9_read_148 (by decide) ?_
    exact w
set_option maxRecDepth 20000 in
theorem B_X9_read_153 {E : zm_E} {K : zm_K} {Post : zm_Po} {nc ns : Nat} (C : zm_Cx E K cX9_read RX9 5 113 0 0 4) (Rt : zm_Rt E Post 0 0 (some .int)) {a0 : Nat} {i2 : Int32} {i3 : Int32} {h : zm_H} (hnc : nc ≤ 0) (hns : ns ≤ 0) (w : zm_gR h a0 9 1 fun v1 => zm_ld K 1 h v1 i2 fun v2 => (v2 ≤ i3 → Post (some (.int (nI 0))) h) ∧ (¬ v2 ≤ i3 → zm_gR h a0 9 4 fun v3 => zm_gR h a0 9 5 fun v4 => zm_ld K 1 h v4 i3 fun v5 => zm_sI K h v3 i3 v5 fun h1 => zm_Go E nc ns 153 [(0, .ref a0), (2, .int i2), (3, .int (i3 + (nI 1)))] [] h1)) : zm_Go E nc ns 153 [(0, .ref a0), (2, .int i2), (3, .int i3)] [] h := by
  refine zm_iload_n C rfl 2 rfl dX9_read_153 ?_
  refine zm_aload_n C rfl 0 rfl dX9_read_154 ?_
  refine zm_getR C ff_X9_7 dX9_read_155 w (fun v1 w => ?_)
  refine zm_iload_n C rfl 1 rfl dX9_read_158 ?_
  refine zm_ldI C dX9_read_159 w (fun v2 w => ?_)
  refine zm_icmp_ge (tgt := 181) C dX9_read_160 (by decide) (fun z => ?_) (fun z => ?_)
  · replace w := w.1 z
    refine zm_iconst (v := nI 0) C (by decide) dX9_read_181 ?_
    exact zm_ireturn C Rt (by show nc ≤ 0; omega) (by show ns ≤ 0; omega) rfl dX9_read_182 w
  · replace w := w.2 z
    refine zm_aload_n C rfl 0 rfl dX9_read_163 ?_
    refine zm_getR C ff_X9_19 dX9_read_164 w (fun v3 w => ?_)
    refine zm_iload_n C rfl 2 rfl dX9_read_167 ?_
    refine zm_aload_n C rfl 0 rfl dX9_read_168 ?_
    refine zm_getR C ff_X9_22 dX9_read_169 w (fun v4 w => ?_)
    refine zm_iload_n C rfl 2 rfl dX9_read_172 ?_
    refine zm_ldI C dX9_read_173 w (fun v5 w => ?_)
    refine zm_stI C dX9_read_174 w (fun h1 w => ?_)
    refine zm_iinc (L' := [(0, .ref a0), (2, .int i2), (3, .int (i3 + (nI 1)))]) C (by decide) 2 [1, 2, 0] dX9_read_175 rfl rfl rfl ?_
    refine zm_goto (tgt := 153) C dX9_read_178 (by decide) ?_
    exact w
set_option maxRecDepth 20000 in
theorem B_X9_turn_0 {E : zm_E} {K : zm_K} {Post : zm_Po} {nc ns : Nat} (C : zm_Cx E K cX9_turn RX9 1 0 0 0 2) (Rt : zm_Rt E Post 0 0 (some .boolean)) {a0 : Nat} {h : zm_H} (hnc : nc ≤ 0) (hns : ns ≤ 0) (w : zm_pf h a0 9 0 (.int (nI 0)) fun h1 => zm_gI h1 a0 9 15 fun v1 => (v1 ≤ (nI 24000) → zm_Go E nc ns 19 [(0, .ref a0), (1, .int (nI 0))] [] h1) ∧ (¬ v1 ≤ (nI 24000) → narrow .boolean (.int (nI 0)) = .int (nI 0) ∧ Post (some (.int (nI 0))) h1)) : zm_Go E nc ns 0 [(0, .ref a0)] [] h := by
  refine zm_aload_n C rfl 0 rfl dX9_turn_0 ?_
  refine zm_iconst (v := nI 0) C (by decide) dX9_turn_1 ?_
  refine zm_put C ff_X9_51 ft_X9 fp_X9_9_0 rfl rfl dX9_turn_2 w (fun h1 w => ?_)
  refine zm_aload_n C rfl 0 rfl dX9_turn_5 ?_
  refine zm_getI C ff_X9_55 dX9_turn_6 w (fun v1 w => ?_)
  refine zm_sipush (v := nI 24000) C (by decide) dX9_turn_9 ?_
  refine zm_icmp_le (tgt := 17) C dX9_turn_12 (by decide) (fun z => ?_) (fun z => ?_)
  · replace w := w.1 z
    refine zm_iconst (v := nI 0) C (by decide) dX9_turn_17 ?_
    refine zm_istore_n (L' := [(0, .ref a0), (1, .int (nI 0))]) C rfl (by decide) [1, 0] dX9_turn_18 rfl ?_
    exact w
  · replace w := w.2 z
    refine zm_iconst (v := nI 0) C (by decide) dX9_turn_15 ?_
    exact zm_ireturn C Rt (by show nc ≤ 0; omega) (by show ns ≤ 0; omega) w.1 dX9_turn_16 w.2
set_option maxRecDepth 20000 in
theorem B_X9_turn_19 {E : zm_E} {K : zm_K} {Post : zm_Po} {nc ns : Nat} (C : zm_Cx E K cX9_turn RX9 1 0 0 0 2) (Rt : zm_Rt E Post 0 0 (some .boolean)) {a0 : Nat} {i1 : Int32} {h : zm_H} (hnc : nc ≤ 0) (hns : ns ≤ 0) (w : zm_gI h a0 9 15 fun v1 => (v1 ≤ i1 → zm_gI h a0 9 15 fun v2 => zm_pf h a0 9 14 (.int v2) fun h1 => narrow .boolean (.int (nI 1)) = .int (nI 1) ∧ Post (some (.int (nI 1))) h1) ∧ (¬ v1 ≤ i1 → zm_gR h a0 9 11 fun v3 => zm_gR h a0 9 12 fun v4 => zm_ld K 1 h v4 i1 fun v5 => zm_sI K h v3 i1 v5 fun h2 => zm_Go E nc ns 19 [(0, .ref a0), (1, .int (i1 + (nI 1)))] [] h2)) : zm_Go E nc ns 19 [(0, .ref a0), (1, .int i1)] [] h := by
  refine zm_iload_n C rfl 1 rfl dX9_turn_19 ?_
  refine zm_aload_n C rfl 0 rfl dX9_turn_20 ?_
  refine zm_getI C ff_X9_55 dX9_turn_21 w (fun v1 w => ?_)
  refine zm_icmp_ge (tgt := 45) C dX9_turn_24 (by decide) (fun z => ?_) (fun z => ?_)
  · replace w := w.1 z
    refine zm_aload_n C rfl 0 rfl dX9_turn_45 ?_
    refine zm_aload_n C rfl 0 rfl dX9_turn_46 ?_
    refine zm_getI C ff_X9_55 dX9_turn_47 w (fun v2 w => ?_)
    refine zm_put C ff_X9_120 ft_X9 fp_X9_9_14 rfl rfl dX9_turn_50 w (fun h1 w => ?_)
    refine zm_iconst (v := nI 1) C (by decide) dX9_turn_53 ?_
    exact zm_ireturn C Rt (by show nc ≤ 0; omega) (by show ns ≤ 0; omega) w.1 dX9_turn_54 w.2
  · replace w := w.2 z
    refine zm_aload_n C rfl 0 rfl dX9_turn_27 ?_
    refine zm_getR C ff_X9_31 dX9_turn_28 w (fun v3 w => ?_)
    refine zm_iload_n C rfl 1 rfl dX9_turn_31 ?_
    refine zm_aload_n C rfl 0 rfl dX9_turn_32 ?_
    refine zm_getR C ff_X9_35 dX9_turn_33 w (fun v4 w => ?_)
    refine zm_iload_n C rfl 1 rfl dX9_turn_36 ?_
    refine zm_ldI C dX9_turn_37 w (fun v5 w => ?_)
    refine zm_stI C dX9_turn_38 w (fun h2 w => ?_)
    refine zm_iinc (L' := [(0, .ref a0), (1, .int (i1 + (nI 1)))]) C (by decide) 1 [1, 0] dX9_turn_39 rfl rfl rfl ?_
    refine zm_goto (tgt := 19) C dX9_turn_42 (by decide) ?_
    exact w
set_option maxRecDepth 20000 in
theorem B_X9_size_0 {E : zm_E} {K : zm_K} {Post : zm_Po} {nc ns : Nat} (C : zm_Cx E K cX9_size RX9 1 0 0 0 1) (Rt : zm_Rt E Post 0 0 (some .int)) {a0 : Nat} {h : zm_H} (hnc : nc ≤ 0) (hns : ns ≤ 0) (w : zm_pf h a0 9 0 (.int (nI 0)) fun h1 => zm_gI h1 a0 9 7 fun v1 => Post (some (.int v1)) h1) : zm_Go E nc ns 0 [(0, .ref a0)] [] h := by
  refine zm_aload_n C rfl 0 rfl dX9_size_0 ?_
  refine zm_iconst (v := nI 0) C (by decide) dX9_size_1 ?_
  refine zm_put C ff_X9_51 ft_X9 fp_X9_9_0 rfl rfl dX9_size_2 w (fun h1 w => ?_)
  refine zm_aload_n C rfl 0 rfl dX9_size_5 ?_
  refine zm_getI C ff_X9_135 dX9_size_6 w (fun v1 w => ?_)
  exact zm_ireturn C Rt (by show nc ≤ 0; omega) (by show ns ≤ 0; omega) rfl dX9_size_9 w
set_option maxRecDepth 20000 in
theorem B_X9_length_0 {E : zm_E} {K : zm_K} {Post : zm_Po} {nc ns : Nat} (C : zm_Cx E K cX9_length RX9 2 21 0 0 2) (Rt : zm_Rt E Post 0 0 (some .int)) {a0 : Nat} {i1 : Int32} {h : zm_H} (hnc : nc ≤ 0) (hns : ns ≤ 0) (w : zm_pf h a0 9 0 (.int (nI 0)) fun h1 => (i1 < 0 → Post (some (.int (-1))) h1) ∧ (¬ i1 < 0 → zm_gI h1 a0 9 7 fun v1 => (i1 < v1 → zm_rc h1 a0 9 ∧ zm_ci K M_X9_lengthOf [.ref a0, .int i1] h1 fun v2 h2 => Post (some (.int v2)) h2) ∧ (¬ i1 < v1 → Post (some (.int (-1))) h1))) : zm_Go E nc ns 0 [(0, .ref a0), (1, .int i1)] [] h := by
  refine zm_aload_n C rfl 0 rfl dX9_length_0 ?_
  refine zm_iconst (v := nI 0) C (by decide) dX9_length_1 ?_
  refine zm_put C ff_X9_51 ft_X9 fp_X9_9_0 rfl rfl dX9_length_2 w (fun h1 w => ?_)
  refine zm_iload_n C rfl 1 rfl dX9_length_5 ?_
  refine zm_if_lt (tgt := 17) C dX9_length_6 (by decide) (fun z => ?_) (fun z => ?_)
  · replace w := w.1 z
    refine zm_iconst (v := (-1)) C (by decide) dX9_length_17 ?_
    refine zm_goto (tgt := 26) C dX9_length_18 (by decide) ?_
    exact zm_ireturn C Rt (by show nc ≤ 0; omega) (by show ns ≤ 0; omega) rfl dX9_length_26 w
  · replace w := w.2 z
    refine zm_iload_n C rfl 1 rfl dX9_length_9 ?_
    refine zm_aload_n C rfl 0 rfl dX9_length_10 ?_
    refine zm_getI C ff_X9_135 dX9_length_11 w (fun v1 w => ?_)
    refine zm_icmp_lt (tgt := 21) C dX9_length_14 (by decide) (fun z => ?_) (fun z => ?_)
    · replace w := w.1 z
      refine zm_aload_n C rfl 0 rfl dX9_length_21 ?_
      refine zm_iload_n C rfl 1 rfl dX9_length_22 ?_
      obtain ⟨wr, w⟩ := w
      refine zm_Vi (As := [.int i1]) (rest := []) C M_X9_lengthOf sv_X9_138 rfl dX9_length_23 rfl (Nat.le_of_ble_eq_true rfl) (by decide) (by decide) (by show nc + 0 ≤ 0; omega) (by show ns + 0 ≤ 0; omega) wr w (fun v2 h2 w => ?_)
      exact zm_ireturn C Rt (by show nc ≤ 0; omega) (by show ns ≤ 0; omega) rfl dX9_length_26 w
    · replace w := w.2 z
      refine zm_iconst (v := (-1)) C (by decide) dX9_length_17 ?_
      refine zm_goto (tgt := 26) C dX9_length_18 (by decide) ?_
      exact zm_ireturn C Rt (by show nc ≤ 0; omega) (by show ns ≤ 0; omega) rfl dX9_length_26 w
set_option maxRecDepth 20000 in
theorem B_X9_byteOf_0 {E : zm_E} {K : zm_K} {Post : zm_Po} {nc ns : Nat} (C : zm_Cx E K cX9_byteOf RX9 2 21 0 0 3) (Rt : zm_Rt E Post 0 0 (some .int)) {a0 : Nat} {i1 : Int32} {i2 : Int32} {h : zm_H} (hnc : nc ≤ 0) (hns : ns ≤ 0) (w : zm_pf h a0 9 0 (.int (nI 0)) fun h1 => (i1 < 0 → Post (some (.int (-1))) h1) ∧ (¬ i1 < 0 → zm_gI h1 a0 9 7 fun v1 => (v1 ≤ i1 → Post (some (.int (-1))) h1) ∧ (¬ v1 ≤ i1 → (i2 < 0 → Post (some (.int (-1))) h1) ∧ (¬ i2 < 0 → zm_rc h1 a0 9 ∧ zm_ci K M_X9_lengthOf [.ref a0, .int i1] h1 fun v2 h2 => (i2 < v2 → zm_gR h2 a0 9 4 fun v3 => zm_gR h2 a0 9 1 fun v4 => zm_ld K 1 h2 v4 i1 fun v5 => zm_ld K 1 h2 v3 (v5 + i2) fun v6 => Post (some (.int v6)) h2) ∧ (¬ i2 < v2 → Post (some (.int (-1))) h2))))) : zm_Go E nc ns 0 [(0, .ref a0), (1, .int i1), (2, .int i2)] [] h := by
  refine zm_aload_n C rfl 0 rfl dX9_byteOf_0 ?_
  refine zm_iconst (v := nI 0) C (by decide) dX9_byteOf_1 ?_
  refine zm_put C ff_X9_51 ft_X9 fp_X9_9_0 rfl rfl dX9_byteOf_2 w (fun h1 w => ?_)
  refine zm_iload_n C rfl 1 rfl dX9_byteOf_5 ?_
  refine zm_if_lt (tgt := 30) C dX9_byteOf_6 (by decide) (fun z => ?_) (fun z => ?_)
  · replace w := w.1 z
    refine zm_iconst (v := (-1)) C (by decide) dX9_byteOf_30 ?_
    refine zm_goto (tgt := 47) C dX9_byteOf_31 (by decide) ?_
    exact zm_ireturn C Rt (by show nc ≤ 0; omega) (by show ns ≤ 0; omega) rfl dX9_byteOf_47 w
  · replace w := w.2 z
    refine zm_iload_n C rfl 1 rfl dX9_byteOf_9 ?_
    refine zm_aload_n C rfl 0 rfl dX9_byteOf_10 ?_
    refine zm_getI C ff_X9_135 dX9_byteOf_11 w (fun v1 w => ?_)
    refine zm_icmp_ge (tgt := 30) C dX9_byteOf_14 (by decide) (fun z => ?_) (fun z => ?_)
    · replace w := w.1 z
      refine zm_iconst (v := (-1)) C (by decide) dX9_byteOf_30 ?_
      refine zm_goto (tgt := 47) C dX9_byteOf_31 (by decide) ?_
      exact zm_ireturn C Rt (by show nc ≤ 0; omega) (by show ns ≤ 0; omega) rfl dX9_byteOf_47 w
    · replace w := w.2 z
      refine zm_iload_n C rfl 2 rfl dX9_byteOf_17 ?_
      refine zm_if_lt (tgt := 30) C dX9_byteOf_18 (by decide) (fun z => ?_) (fun z => ?_)
      · replace w := w.1 z
        refine zm_iconst (v := (-1)) C (by decide) dX9_byteOf_30 ?_
        refine zm_goto (tgt := 47) C dX9_byteOf_31 (by decide) ?_
        exact zm_ireturn C Rt (by show nc ≤ 0; omega) (by show ns ≤ 0; omega) rfl dX9_byteOf_47 w
      · replace w := w.2 z
        refine zm_iload_n C rfl 2 rfl dX9_byteOf_21 ?_
        refine zm_aload_n C rfl 0 rfl dX9_byteOf_22 ?_
        refine zm_iload_n C rfl 1 rfl dX9_byteOf_23 ?_
        obtain ⟨wr, w⟩ := w
        refine zm_Vi (As := [.int i1]) (rest := [.int i2]) C M_X9_lengthOf sv_X9_138 rfl dX9_byteOf_24 rfl (Nat.le_of_ble_eq_true rfl) (by decide) (by decide) (by show nc + 0 ≤ 0; omega) (by show ns + 0 ≤ 0; omega) wr w (fun v2 h2 w => ?_)
        refine zm_icmp_lt (tgt := 34) C dX9_byteOf_27 (by decide) (fun z => ?_) (fun z => ?_)
        · replace w := w.1 z
          refine zm_aload_n C rfl 0 rfl dX9_byteOf_34 ?_
          refine zm_getR C ff_X9_19 dX9_byteOf_35 w (fun v3 w => ?_)
          refine zm_aload_n C rfl 0 rfl dX9_byteOf_38 ?_
          refine zm_getR C ff_X9_7 dX9_byteOf_39 w (fun v4 w => ?_)
          refine zm_iload_n C rfl 1 rfl dX9_byteOf_42 ?_
          refine zm_ldI C dX9_byteOf_43 w (fun v5 w => ?_)
          refine zm_iload_n C rfl 2 rfl dX9_byteOf_44 ?_
          refine zm_iadd C dX9_byteOf_45 ?_
          refine zm_ldI C dX9_byteOf_46 w (fun v6 w => ?_)
          exact zm_ireturn C Rt (by show nc ≤ 0; omega) (by show ns ≤ 0; omega) rfl dX9_byteOf_47 w
        · replace w := w.2 z
          refine zm_iconst (v := (-1)) C (by decide) dX9_byteOf_30 ?_
          refine zm_goto (tgt := 47) C dX9_byteOf_31 (by decide) ?_
          exact zm_ireturn C Rt (by show nc ≤ 0; omega) (by show ns ≤ 0; omega) rfl dX9_byteOf_47 w
set_option maxRecDepth 20000 in
theorem B_X9_output_0 {E : zm_E} {K : zm_K} {Post : zm_Po} {nc ns : Nat} (C : zm_Cx E K cX9_output RX9 1 0 0 0 2) (Rt : zm_Rt E Post 0 0 (some .int)) {a0 : Nat} {i1 : Int32} {h : zm_H} (hnc : nc ≤ 0) (hns : ns ≤ 0) (w : zm_pf h a0 9 0 (.int (nI 0)) fun h1 => (i1 < 0 → Post (some (.int (-1))) h1) ∧ (¬ i1 < 0 → zm_gI h1 a0 9 15 fun v1 => (i1 < v1 → zm_gR h1 a0 9 12 fun v2 => zm_ld K 1 h1 v2 i1 fun v3 => Post (some (.int v3)) h1) ∧ (¬ i1 < v1 → Post (some (.int (-1))) h1))) : zm_Go E nc ns 0 [(0, .ref a0), (1, .int i1)] [] h := by
  refine zm_aload_n C rfl 0 rfl dX9_output_0 ?_
  refine zm_iconst (v := nI 0) C (by decide) dX9_output_1 ?_
  refine zm_put C ff_X9_51 ft_X9 fp_X9_9_0 rfl rfl dX9_output_2 w (fun h1 w => ?_)
  refine zm_iload_n C rfl 1 rfl dX9_output_5 ?_
  refine zm_if_lt (tgt := 17) C dX9_output_6 (by decide) (fun z => ?_) (fun z => ?_)
  · replace w := w.1 z
    refine zm_iconst (v := (-1)) C (by decide) dX9_output_17 ?_
    refine zm_goto (tgt := 27) C dX9_output_18 (by decide) ?_
    exact zm_ireturn C Rt (by show nc ≤ 0; omega) (by show ns ≤ 0; omega) rfl dX9_output_27 w
  · replace w := w.2 z
    refine zm_iload_n C rfl 1 rfl dX9_output_9 ?_
    refine zm_aload_n C rfl 0 rfl dX9_output_10 ?_
    refine zm_getI C ff_X9_55 dX9_output_11 w (fun v1 w => ?_)
    refine zm_icmp_lt (tgt := 21) C dX9_output_14 (by decide) (fun z => ?_) (fun z => ?_)
    · replace w := w.1 z
      refine zm_aload_n C rfl 0 rfl dX9_output_21 ?_
      refine zm_getR C ff_X9_35 dX9_output_22 w (fun v2 w => ?_)
      refine zm_iload_n C rfl 1 rfl dX9_output_25 ?_
      refine zm_ldI C dX9_output_26 w (fun v3 w => ?_)
      exact zm_ireturn C Rt (by show nc ≤ 0; omega) (by show ns ≤ 0; omega) rfl dX9_output_27 w
    · replace w := w.2 z
      refine zm_iconst (v := (-1)) C (by decide) dX9_output_17 ?_
      refine zm_goto (tgt := 27) C dX9_output_18 (by decide) ?_
      exact zm_ireturn C Rt (by show nc ≤ 0; omega) (by show ns ≤ 0; omega) rfl dX9_output_27 w
