set_option maxRecDepth 20000 in
theorem B_X9_feed_0 {E : zm_E} {K : zm_K} {Post : zm_Po} {nc ns : Nat} (C : zm_Cx E K cX9_feed RX9 1 0 0 0 8) (Rt : zm_Rt E Post 0 0 (some .boolean)) {a0 : Nat} {i1 : Int32} {i2 : Int32} {i3 : Int32} {i4 : Int32} {i5 : Int32} {h : zm_H} (hnc : nc ≤ 0) (hns : ns ≤ 0) (w : zm_pf h a0 9 0 (.int (nI 0)) fun h1 => zm_gI h1 a0 9 13 fun v1 => ((v1 + (nI 20)) ≤ (nI 24000) → zm_Go E nc ns 23 [(0, .ref a0), (1, .int i1), (2, .int i2), (3, .int i3), (4, .int i4), (5, .int i5), (6, .int (nI 0))] [] h1) ∧ (¬ (v1 + (nI 20)) ≤ (nI 24000) → narrow .boolean (.int (nI 0)) = .int (nI 0) ∧ Post (some (.int (nI 0))) h1)) : zm_Go E nc ns 0 [(0, .ref a0), (1, .int i1), (2, .int i2), (3, .int i3), (4, .int i4), (5, .int i5)] [] h := by
  refine zm_aload_n C rfl 0 rfl dX9_feed_0 ?_
  refine zm_iconst (v := nI 0) C (by decide) dX9_feed_1 ?_
  refine zm_put C ff_X9_51 ft_X9 fp_X9_9_0 rfl rfl dX9_feed_2 w (fun h1 w => ?_)
  refine zm_aload_n C rfl 0 rfl dX9_feed_5 ?_
  refine zm_getI C ff_X9_132 dX9_feed_6 w (fun v1 w => ?_)
  refine zm_bipush (v := nI 20) C (by decide) dX9_feed_9 ?_
  refine zm_iadd C dX9_feed_11 ?_
  refine zm_sipush (v := nI 24000) C (by decide) dX9_feed_12 ?_
  refine zm_icmp_le (tgt := 20) C dX9_feed_15 (by decide) (fun z => ?_) (fun z => ?_)
  · replace w := w.1 z
    refine zm_iconst (v := nI 0) C (by decide) dX9_feed_20 ?_
    refine zm_istore (L' := [(0, .ref a0), (1, .int i1), (2, .int i2), (3, .int i3), (4, .int i4), (5, .int i5), (6, .int (nI 0))]) C (by decide) [1, 2, 3, 4, 5, 6, 0] dX9_feed_21 rfl ?_
    exact w
  · replace w := w.2 z
    refine zm_iconst (v := nI 0) C (by decide) dX9_feed_18 ?_
    exact zm_ireturn C Rt (by show nc ≤ 0; omega) (by show ns ≤ 0; omega) w.1 dX9_feed_19 w.2
set_option maxRecDepth 20000 in
theorem B_X9_feed_23 {E : zm_E} {K : zm_K} {Post : zm_Po} {nc ns : Nat} (C : zm_Cx E K cX9_feed RX9 1 0 0 0 8) (Rt : zm_Rt E Post 0 0 (some .boolean)) {a0 : Nat} {i1 : Int32} {i2 : Int32} {i3 : Int32} {i4 : Int32} {i5 : Int32} {i6 : Int32} {h : zm_H} (hnc : nc ≤ 0) (hns : ns ≤ 0) (w : ((nI 20) ≤ i6 → zm_gI h a0 9 13 fun v1 => zm_pf h a0 9 13 (.int (v1 + (nI 20))) fun h1 => narrow .boolean (.int (nI 1)) = .int (nI 1) ∧ Post (some (.int (nI 1))) h1) ∧ (¬ (nI 20) ≤ i6 → ((nI 4) ≤ i6 → ((nI 8) ≤ i6 → ((nI 12) ≤ i6 → ((nI 16) ≤ i6 → zm_gR h a0 9 10 fun v2 => zm_gI h a0 9 13 fun v3 => ¬ (nI 4) = 0 ∧ zm_sI K h v2 (v3 + i6) ((i5 >>> (((nI 24) - ((nI 8) * (i6 - i6 / (nI 4) * (nI 4)))) &&& 31)) &&& (nI 255)) fun h2 => zm_Go E nc ns 23 [(0, .ref a0), (1, .int i1), (2, .int i2), (3, .int i3), (4, .int i4), (5, .int i5), (6, .int (i6 + (nI 1)))] [] h2) ∧ (¬ (nI 16) ≤ i6 → zm_gR h a0 9 10 fun v4 => zm_gI h a0 9 13 fun v5 => ¬ (nI 4) = 0 ∧ zm_sI K h v4 (v5 + i6) ((i4 >>> (((nI 24) - ((nI 8) * (i6 - i6 / (nI 4) * (nI 4)))) &&& 31)) &&& (nI 255)) fun h3 => zm_Go E nc ns 23 [(0, .ref a0), (1, .int i1), (2, .int i2), (3, .int i3), (4, .int i4), (5, .int i5), (6, .int (i6 + (nI 1)))] [] h3)) ∧ (¬ (nI 12) ≤ i6 → zm_gR h a0 9 10 fun v6 => zm_gI h a0 9 13 fun v7 => ¬ (nI 4) = 0 ∧ zm_sI K h v6 (v7 + i6) ((i3 >>> (((nI 24) - ((nI 8) * (i6 - i6 / (nI 4) * (nI 4)))) &&& 31)) &&& (nI 255)) fun h4 => zm_Go E nc ns 23 [(0, .ref a0), (1, .int i1), (2, .int i2), (3, .int i3), (4, .int i4), (5, .int i5), (6, .int (i6 + (nI 1)))] [] h4)) ∧ (¬ (nI 8) ≤ i6 → zm_gR h a0 9 10 fun v8 => zm_gI h a0 9 13 fun v9 => ¬ (nI 4) = 0 ∧ zm_sI K h v8 (v9 + i6) ((i2 >>> (((nI 24) - ((nI 8) * (i6 - i6 / (nI 4) * (nI 4)))) &&& 31)) &&& (nI 255)) fun h5 => zm_Go E nc ns 23 [(0, .ref a0), (1, .int i1), (2, .int i2), (3, .int i3), (4, .int i4), (5, .int i5), (6, .int (i6 + (nI 1)))] [] h5)) ∧ (¬ (nI 4) ≤ i6 → zm_gR h a0 9 10 fun v10 => zm_gI h a0 9 13 fun v11 => ¬ (nI 4) = 0 ∧ zm_sI K h v10 (v11 + i6) ((i1 >>> (((nI 24) - ((nI 8) * (i6 - i6 / (nI 4) * (nI 4)))) &&& 31)) &&& (nI 255)) fun h6 => zm_Go E nc ns 23 [(0, .ref a0), (1, .int i1), (2, .int i2), (3, .int i3), (4, .int i4), (5, .int i5), (6, .int (i6 + (nI 1)))] [] h6))) : zm_Go E nc ns 23 [(0, .ref a0), (1, .int i1), (2, .int i2), (3, .int i3), (4, .int i4), (5, .int i5), (6, .int i6)] [] h := by
  refine zm_iload C 6 rfl dX9_feed_23 ?_
  refine zm_bipush (v := nI 20) C (by decide) dX9_feed_25 ?_
  refine zm_icmp_ge (tgt := 113) C dX9_feed_27 (by decide) (fun z => ?_) (fun z => ?_)
  · replace w := w.1 z
    refine zm_aload_n C rfl 0 rfl dX9_feed_113 ?_
    refine zm_dup C rfl dX9_feed_114 ?_
    refine zm_getI C ff_X9_132 dX9_feed_115 w (fun v1 w => ?_)
    refine zm_bipush (v := nI 20) C (by decide) dX9_feed_118 ?_
    refine zm_iadd C dX9_feed_120 ?_
    refine zm_put C ff_X9_132 ft_X9 fp_X9_9_13 rfl rfl dX9_feed_121 w (fun h1 w => ?_)
    refine zm_iconst (v := nI 1) C (by decide) dX9_feed_124 ?_
    exact zm_ireturn C Rt (by show nc ≤ 0; omega) (by show ns ≤ 0; omega) w.1 dX9_feed_125 w.2
  · replace w := w.2 z
    refine zm_iload C 6 rfl dX9_feed_30 ?_
    refine zm_iconst (v := nI 4) C (by decide) dX9_feed_32 ?_
    refine zm_icmp_ge (tgt := 40) C dX9_feed_33 (by decide) (fun z => ?_) (fun z => ?_)
    · replace w := w.1 z
      refine zm_iload C 6 rfl dX9_feed_40 ?_
      refine zm_bipush (v := nI 8) C (by decide) dX9_feed_42 ?_
      refine zm_icmp_ge (tgt := 51) C dX9_feed_44 (by decide) (fun z => ?_) (fun z => ?_)
      · replace w := w.1 z
        refine zm_iload C 6 rfl dX9_feed_51 ?_
        refine zm_bipush (v := nI 12) C (by decide) dX9_feed_53 ?_
        refine zm_icmp_ge (tgt := 62) C dX9_feed_55 (by decide) (fun z => ?_) (fun z => ?_)
        · replace w := w.1 z
          refine zm_iload C 6 rfl dX9_feed_62 ?_
          refine zm_bipush (v := nI 16) C (by decide) dX9_feed_64 ?_
          refine zm_icmp_ge (tgt := 74) C dX9_feed_66 (by decide) (fun z => ?_) (fun z => ?_)
          · replace w := w.1 z
            refine zm_iload C 5 rfl dX9_feed_74 ?_
            refine zm_istore (L' := [(0, .ref a0), (1, .int i1), (2, .int i2), (3, .int i3), (4, .int i4), (5, .int i5), (6, .int i6), (7, .int i5)]) C (by decide) [1, 2, 3, 4, 5, 6, 7, 0] dX9_feed_76 rfl ?_
            refine zm_aload_n C rfl 0 rfl dX9_feed_78 ?_
            refine zm_getR C ff_X9_28 dX9_feed_79 w (fun v2 w => ?_)
            refine zm_aload_n C rfl 0 rfl dX9_feed_82 ?_
            refine zm_getI C ff_X9_132 dX9_feed_83 w (fun v3 w => ?_)
            refine zm_iload C 6 rfl dX9_feed_86 ?_
            refine zm_iadd C dX9_feed_88 ?_
            refine zm_iload C 7 rfl dX9_feed_89 ?_
            refine zm_bipush (v := nI 24) C (by decide) dX9_feed_91 ?_
            refine zm_bipush (v := nI 8) C (by decide) dX9_feed_93 ?_
            refine zm_iload C 6 rfl dX9_feed_95 ?_
            refine zm_iconst (v := nI 4) C (by decide) dX9_feed_97 ?_
            refine zm_irem C w.1 dX9_feed_98 ?_
            replace w := w.2
            refine zm_imul C dX9_feed_99 ?_
            refine zm_isub C dX9_feed_100 ?_
            refine zm_ishr C dX9_feed_101 ?_
            refine zm_sipush (v := nI 255) C (by decide) dX9_feed_102 ?_
            refine zm_iand C dX9_feed_105 ?_
            refine zm_stI C dX9_feed_106 w (fun h2 w => ?_)
            refine zm_iinc (L' := [(0, .ref a0), (1, .int i1), (2, .int i2), (3, .int i3), (4, .int i4), (5, .int i5), (6, .int (i6 + (nI 1))), (7, .int i5)]) C (by decide) 6 [1, 2, 3, 4, 5, 6, 0, 7] dX9_feed_107 rfl rfl rfl ?_
            refine zm_goto (tgt := 23) C dX9_feed_110 (by decide) ?_
            exact zm_loc [0, 1, 2, 3, 4, 5, 6] rfl w
          · replace w := w.2 z
            refine zm_iload C 4 rfl dX9_feed_69 ?_
            refine zm_goto (tgt := 76) C dX9_feed_71 (by decide) ?_
            refine zm_istore (L' := [(0, .ref a0), (1, .int i1), (2, .int i2), (3, .int i3), (4, .int i4), (5, .int i5), (6, .int i6), (7, .int i4)]) C (by decide) [1, 2, 3, 4, 5, 6, 7, 0] dX9_feed_76 rfl ?_
            refine zm_aload_n C rfl 0 rfl dX9_feed_78 ?_
            refine zm_getR C ff_X9_28 dX9_feed_79 w (fun v4 w => ?_)
            refine zm_aload_n C rfl 0 rfl dX9_feed_82 ?_
            refine zm_getI C ff_X9_132 dX9_feed_83 w (fun v5 w => ?_)
            refine zm_iload C 6 rfl dX9_feed_86 ?_
            refine zm_iadd C dX9_feed_88 ?_
            refine zm_iload C 7 rfl dX9_feed_89 ?_
            refine zm_bipush (v := nI 24) C (by decide) dX9_feed_91 ?_
            refine zm_bipush (v := nI 8) C (by decide) dX9_feed_93 ?_
            refine zm_iload C 6 rfl dX9_feed_95 ?_
            refine zm_iconst (v := nI 4) C (by decide) dX9_feed_97 ?_
            refine zm_irem C w.1 dX9_feed_98 ?_
            replace w := w.2
            refine zm_imul C dX9_feed_99 ?_
            refine zm_isub C dX9_feed_100 ?_
            refine zm_ishr C dX9_feed_101 ?_
            refine zm_sipush (v := nI 255) C (by decide) dX9_feed_102 ?_
            refine zm_iand C dX9_feed_105 ?_
            refine zm_stI C dX9_feed_106 w (fun h3 w => ?_)
            refine zm_iinc (L' := [(0, .ref a0), (1, .int i1), (2, .int i2), (3, .int i3), (4, .int i4), (5, .int i5), (6, .int (i6 + (nI 1))), (7, .int i4)]) C (by decide) 6 [1, 2, 3, 4, 5, 6, 0, 7] dX9_feed_107 rfl rfl rfl ?_
            refine zm_goto (tgt := 23) C dX9_feed_110 (by decide) ?_
            exact zm_loc [0, 1, 2, 3, 4, 5, 6] rfl w
        · replace w := w.2 z
          refine zm_iload_n C rfl 3 rfl dX9_feed_58 ?_
          refine zm_goto (tgt := 76) C dX9_feed_59 (by decide) ?_
          refine zm_istore (L' := [(0, .ref a0), (1, .int i1), (2, .int i2), (3, .int i3), (4, .int i4), (5, .int i5), (6, .int i6), (7, .int i3)]) C (by decide) [1, 2, 3, 4, 5, 6, 7, 0] dX9_feed_76 rfl ?_
          refine zm_aload_n C rfl 0 rfl dX9_feed_78 ?_
          refine zm_getR C ff_X9_28 dX9_feed_79 w (fun v6 w => ?_)
          refine zm_aload_n C rfl 0 rfl dX9_feed_82 ?_
          refine zm_getI C ff_X9_132 dX9_feed_83 w (fun v7 w => ?_)
          refine zm_iload C 6 rfl dX9_feed_86 ?_
          refine zm_iadd C dX9_feed_88 ?_
          refine zm_iload C 7 rfl dX9_feed_89 ?_
          refine zm_bipush (v := nI 24) C (by decide) dX9_feed_91 ?_
          refine zm_bipush (v := nI 8) C (by decide) dX9_feed_93 ?_
          refine zm_iload C 6 rfl dX9_feed_95 ?_
          refine zm_iconst (v := nI 4) C (by decide) dX9_feed_97 ?_
          refine zm_irem C w.1 dX9_feed_98 ?_
          replace w := w.2
          refine zm_imul C dX9_feed_99 ?_
          refine zm_isub C dX9_feed_100 ?_
          refine zm_ishr C dX9_feed_101 ?_
          refine zm_sipush (v := nI 255) C (by decide) dX9_feed_102 ?_
          refine zm_iand C dX9_feed_105 ?_
          refine zm_stI C dX9_feed_106 w (fun h4 w => ?_)
          refine zm_iinc (L' := [(0, .ref a0), (1, .int i1), (2, .int i2), (3, .int i3), (4, .int i4), (5, .int i5), (6, .int (i6 + (nI 1))), (7, .int i3)]) C (by decide) 6 [1, 2, 3, 4, 5, 6, 0, 7] dX9_feed_107 rfl rfl rfl ?_
          refine zm_goto (tgt := 23) C dX9_feed_110 (by decide) ?_
          exact zm_loc [0, 1, 2, 3, 4, 5, 6] rfl w
      · replace w := w.2 z
        refine zm_iload_n C rfl 2 rfl dX9_feed_47 ?_
        refine zm_goto (tgt := 76) C dX9_feed_48 (by decide) ?_
        refine zm_istore (L' := [(0, .ref a0), (1, .int i1), (2, .int i2), (3, .int i3), (4, .int i4), (5, .int i5), (6, .int i6), (7, .int i2)]) C (by decide) [1, 2, 3, 4, 5, 6, 7, 0] dX9_feed_76 rfl ?_
        refine zm_aload_n C rfl 0 rfl dX9_feed_78 ?_
        refine zm_getR C ff_X9_28 dX9_feed_79 w (fun v8 w => ?_)
        refine zm_aload_n C rfl 0 rfl dX9_feed_82 ?_
        refine zm_getI C ff_X9_132 dX9_feed_83 w (fun v9 w => ?_)
        refine zm_iload C 6 rfl dX9_feed_86 ?_
        refine zm_iadd C dX9_feed_88 ?_
        refine zm_iload C 7 rfl dX9_feed_89 ?_
        refine zm_bipush (v := nI 24) C (by decide) dX9_feed_91 ?_
        refine zm_bipush (v := nI 8) C (by decide) dX9_feed_93 ?_
        refine zm_iload C 6 rfl dX9_feed_95 ?_
        refine zm_iconst (v := nI 4) C (by decide) dX9_feed_97 ?_
        refine zm_irem C w.1 dX9_feed_98 ?_
        replace w := w.2
        refine zm_imul C dX9_feed_99 ?_
        refine zm_isub C dX9_feed_100 ?_
        refine zm_ishr C dX9_feed_101 ?_
        refine zm_sipush (v := nI 255) C (by decide) dX9_feed_102 ?_
        refine zm_iand C dX9_feed_105 ?_
        refine zm_stI C dX9_feed_106 w (fun h5 w => ?_)
        refine zm_iinc (L' := [(0, .ref a0), (1, .int i1), (2, .int i2), (3, .int i3), (4, .int i4), (5, .int i5), (6, .int (i6 + (nI 1))), (7, .int i2)]) C (by decide) 6 [1, 2, 3, 4, 5, 6, 0, 7] dX9_feed_107 rfl rfl rfl ?_
        refine zm_goto (tgt := 23) C dX9_feed_110 (by decide) ?_
        exact zm_loc [0, 1, 2, 3, 4, 5, 6] rfl w
    · replace w := w.2 z
      refine zm_iload_n C rfl 1 rfl dX9_feed_36 ?_
      refine zm_goto (tgt := 76) C dX9_feed_37 (by decide) ?_
      refine zm_istore (L' := [(0, .ref a0), (1, .int i1), (2, .int i2), (3, .int i3), (4, .int i4), (5, .int i5), (6, .int i6), (7, .int i1)]) C (by decide) [1, 2, 3, 4, 5, 6, 7, 0] dX9_feed_76 rfl ?_
      refine zm_aload_n C rfl 0 rfl dX9_feed_78 ?_
      refine zm_getR C ff_X9_28 dX9_feed_79 w (fun v10 w => ?_)
      refine zm_aload_n C rfl 0 rfl dX9_feed_82 ?_
      refine zm_getI C ff_X9_132 dX9_feed_83 w (fun v11 w => ?_)
      refine zm_iload C 6 rfl dX9_feed_86 ?_
      refine zm_iadd C dX9_feed_88 ?_
      refine zm_iload C 7 rfl dX9_feed_89 ?_
      refine zm_bipush (v := nI 24) C (by decide) dX9_feed_91 ?_
      refine zm_bipush (v := nI 8) C (by decide) dX9_feed_93 ?_
      refine zm_iload C 6 rfl dX9_feed_95 ?_
      refine zm_iconst (v := nI 4) C (by decide) dX9_feed_97 ?_
      refine zm_irem C w.1 dX9_feed_98 ?_
      replace w := w.2
      refine zm_imul C dX9_feed_99 ?_
      refine zm_isub C dX9_feed_100 ?_
      refine zm_ishr C dX9_feed_101 ?_
      refine zm_sipush (v := nI 255) C (by decide) dX9_feed_102 ?_
      refine zm_iand C dX9_feed_105 ?_
      refine zm_stI C dX9_feed_106 w (fun h6 w => ?_)
      refine zm_iinc (L' := [(0, .ref a0), (1, .int i1), (2, .int i2), (3, .int i3), (4, .int i4), (5, .int i5), (6, .int (i6 + (nI 1))), (7, .int i1)]) C (by decide) 6 [1, 2, 3, 4, 5, 6, 0, 7] dX9_feed_107 rfl rfl rfl ?_
      refine zm_goto (tgt := 23) C dX9_feed_110 (by decide) ?_
      exact zm_loc [0, 1, 2, 3, 4, 5, 6] rfl w
set_option maxRecDepth 20000 in
theorem B_X9_end_0 {E : zm_E} {K : zm_K} {Post : zm_Po} {nc ns : Nat} (C : zm_Cx E K cX9_end RX9 1 0 0 0 3) (Rt : zm_Rt E Post 0 0 (some .boolean)) {a0 : Nat} {i1 : Int32} {h : zm_H} (hnc : nc ≤ 0) (hns : ns ≤ 0) (w : zm_pf h a0 9 0 (.int (nI 0)) fun h1 => (i1 < 0 → narrow .boolean (.int (nI 0)) = .int (nI 0) ∧ Post (some (.int (nI 0))) h1) ∧ (¬ i1 < 0 → zm_gI h1 a0 9 13 fun v1 => (i1 ≤ v1 → zm_Go E nc ns 21 [(0, .ref a0), (1, .int i1), (2, .int (nI 0))] [] h1) ∧ (¬ i1 ≤ v1 → narrow .boolean (.int (nI 0)) = .int (nI 0) ∧ Post (some (.int (nI 0))) h1))) : zm_Go E nc ns 0 [(0, .ref a0), (1, .int i1)] [] h := by
  refine zm_aload_n C rfl 0 rfl dX9_end_0 ?_
  refine zm_iconst (v := nI 0) C (by decide) dX9_end_1 ?_
  refine zm_put C ff_X9_51 ft_X9 fp_X9_9_0 rfl rfl dX9_end_2 w (fun h1 w => ?_)
  refine zm_iload_n C rfl 1 rfl dX9_end_5 ?_
  refine zm_if_lt (tgt := 17) C dX9_end_6 (by decide) (fun z => ?_) (fun z => ?_)
  · replace w := w.1 z
    refine zm_iconst (v := nI 0) C (by decide) dX9_end_17 ?_
    exact zm_ireturn C Rt (by show nc ≤ 0; omega) (by show ns ≤ 0; omega) w.1 dX9_end_18 w.2
  · replace w := w.2 z
    refine zm_iload_n C rfl 1 rfl dX9_end_9 ?_
    refine zm_aload_n C rfl 0 rfl dX9_end_10 ?_
    refine zm_getI C ff_X9_132 dX9_end_11 w (fun v1 w => ?_)
    refine zm_icmp_le (tgt := 19) C dX9_end_14 (by decide) (fun z => ?_) (fun z => ?_)
    · replace w := w.1 z
      refine zm_iconst (v := nI 0) C (by decide) dX9_end_19 ?_
      refine zm_istore_n (L' := [(0, .ref a0), (1, .int i1), (2, .int (nI 0))]) C rfl (by decide) [1, 2, 0] dX9_end_20 rfl ?_
      exact w
    · replace w := w.2 z
      refine zm_iconst (v := nI 0) C (by decide) dX9_end_17 ?_
      exact zm_ireturn C Rt (by show nc ≤ 0; omega) (by show ns ≤ 0; omega) w.1 dX9_end_18 w.2
set_option maxRecDepth 20000 in
theorem B_X9_end_21 {E : zm_E} {K : zm_K} {Post : zm_Po} {nc ns : Nat} (C : zm_Cx E K cX9_end RX9 1 0 0 0 3) (Rt : zm_Rt E Post 0 0 (some .boolean)) {a0 : Nat} {i1 : Int32} {i2 : Int32} {h : zm_H} (hnc : nc ≤ 0) (hns : ns ≤ 0) (w : (i1 ≤ i2 → zm_pf h a0 9 14 (.int i1) fun h1 => zm_pf h1 a0 9 13 (.int (nI 0)) fun h2 => narrow .boolean (.int (nI 1)) = .int (nI 1) ∧ Post (some (.int (nI 1))) h2) ∧ (¬ i1 ≤ i2 → zm_gR h a0 9 11 fun v1 => zm_gR h a0 9 10 fun v2 => zm_ld K 1 h v2 i2 fun v3 => zm_sI K h v1 i2 v3 fun h3 => zm_Go E nc ns 21 [(0, .ref a0), (1, .int i1), (2, .int (i2 + (nI 1)))] [] h3)) : zm_Go E nc ns 21 [(0, .ref a0), (1, .int i1), (2, .int i2)] [] h := by
  refine zm_iload_n C rfl 2 rfl dX9_end_21 ?_
  refine zm_iload_n C rfl 1 rfl dX9_end_22 ?_
  refine zm_icmp_ge (tgt := 44) C dX9_end_23 (by decide) (fun z => ?_) (fun z => ?_)
  · replace w := w.1 z
    refine zm_aload_n C rfl 0 rfl dX9_end_44 ?_
    refine zm_iload_n C rfl 1 rfl dX9_end_45 ?_
    refine zm_put C ff_X9_120 ft_X9 fp_X9_9_14 rfl rfl dX9_end_46 w (fun h1 w => ?_)
    refine zm_aload_n C rfl 0 rfl dX9_end_49 ?_
    refine zm_iconst (v := nI 0) C (by decide) dX9_end_50 ?_
    refine zm_put C ff_X9_132 ft_X9 fp_X9_9_13 rfl rfl dX9_end_51 w (fun h2 w => ?_)
    refine zm_iconst (v := nI 1) C (by decide) dX9_end_54 ?_
    exact zm_ireturn C Rt (by show nc ≤ 0; omega) (by show ns ≤ 0; omega) w.1 dX9_end_55 w.2
  · replace w := w.2 z
    refine zm_aload_n C rfl 0 rfl dX9_end_26 ?_
    refine zm_getR C ff_X9_31 dX9_end_27 w (fun v1 w => ?_)
    refine zm_iload_n C rfl 2 rfl dX9_end_30 ?_
    refine zm_aload_n C rfl 0 rfl dX9_end_31 ?_
    refine zm_getR C ff_X9_28 dX9_end_32 w (fun v2 w => ?_)
    refine zm_iload_n C rfl 2 rfl dX9_end_35 ?_
    refine zm_ldI C dX9_end_36 w (fun v3 w => ?_)
    refine zm_stI C dX9_end_37 w (fun h3 w => ?_)
    refine zm_iinc (L' := [(0, .ref a0), (1, .int i1), (2, .int (i2 + (nI 1)))]) C (by decide) 2 [1, 2, 0] dX9_end_38 rfl rfl rfl ?_
    refine zm_goto (tgt := 21) C dX9_end_41 (by decide) ?_
    exact w
set_option maxRecDepth 20000 in
theorem B_X9_add_0 {E : zm_E} {K : zm_K} {Post : zm_Po} {nc ns : Nat} (C : zm_Cx E K cX9_add RX9 1 0 0 0 4) (Rt : zm_Rt E Post 0 0 (some .boolean)) {a0 : Nat} {i1 : Int32} {h : zm_H} (hnc : nc ≤ 0) (hns : ns ≤ 0) (w : zm_pf h a0 9 0 (.int (nI 0)) fun h1 => zm_gI h1 a0 9 14 fun v1 => ((nI 255) < v1 → narrow .boolean (.int (nI 0)) = .int (nI 0) ∧ Post (some (.int (nI 0))) h1) ∧ (¬ (nI 255) < v1 → (i1 < (nI 1) → narrow .boolean (.int (nI 0)) = .int (nI 0) ∧ Post (some (.int (nI 0))) h1) ∧ (¬ i1 < (nI 1) → zm_gI h1 a0 9 7 fun v2 => (((nI 1000) - v2) < i1 → narrow .boolean (.int (nI 0)) = .int (nI 0) ∧ Post (some (.int (nI 0))) h1) ∧ (¬ ((nI 1000) - v2) < i1 → zm_gI h1 a0 9 14 fun v3 => zm_gR h1 a0 9 1 fun v4 => zm_gI h1 a0 9 7 fun v5 => zm_ld K 1 h1 v4 v5 fun v6 => ((lg_cmp (i1.toInt64 * v3.toInt64) (((nI 20000) - v6).toInt64)) ≤ 0 → zm_Go E nc ns 62 [(0, .ref a0), (1, .int i1), (2, .int (nI 0))] [] h1) ∧ (¬ (lg_cmp (i1.toInt64 * v3.toInt64) (((nI 20000) - v6).toInt64)) ≤ 0 → narrow .boolean (.int (nI 0)) = .int (nI 0) ∧ Post (some (.int (nI 0))) h1))))) : zm_Go E nc ns 0 [(0, .ref a0), (1, .int i1)] [] h := by
  refine zm_aload_n C rfl 0 rfl dX9_add_0 ?_
  refine zm_iconst (v := nI 0) C (by decide) dX9_add_1 ?_
  refine zm_put C ff_X9_51 ft_X9 fp_X9_9_0 rfl rfl dX9_add_2 w (fun h1 w => ?_)
  refine zm_aload_n C rfl 0 rfl dX9_add_5 ?_
  refine zm_getI C ff_X9_120 dX9_add_6 w (fun v1 w => ?_)
  refine zm_sipush (v := nI 255) C (by decide) dX9_add_9 ?_
  refine zm_icmp_gt (tgt := 58) C dX9_add_12 (by decide) (fun z => ?_) (fun z => ?_)
  · replace w := w.1 z
    refine zm_iconst (v := nI 0) C (by decide) dX9_add_58 ?_
    exact zm_ireturn C Rt (by show nc ≤ 0; omega) (by show ns ≤ 0; omega) w.1 dX9_add_59 w.2
  · replace w := w.2 z
    refine zm_iload_n C rfl 1 rfl dX9_add_15 ?_
    refine zm_iconst (v := nI 1) C (by decide) dX9_add_16 ?_
    refine zm_icmp_lt (tgt := 58) C dX9_add_17 (by decide) (fun z => ?_) (fun z => ?_)
    · replace w := w.1 z
      refine zm_iconst (v := nI 0) C (by decide) dX9_add_58 ?_
      exact zm_ireturn C Rt (by show nc ≤ 0; omega) (by show ns ≤ 0; omega) w.1 dX9_add_59 w.2
    · replace w := w.2 z
      refine zm_iload_n C rfl 1 rfl dX9_add_20 ?_
      refine zm_sipush (v := nI 1000) C (by decide) dX9_add_21 ?_
      refine zm_aload_n C rfl 0 rfl dX9_add_24 ?_
      refine zm_getI C ff_X9_135 dX9_add_25 w (fun v2 w => ?_)
      refine zm_isub C dX9_add_28 ?_
      refine zm_icmp_gt (tgt := 58) C dX9_add_29 (by decide) (fun z => ?_) (fun z => ?_)
      · replace w := w.1 z
        refine zm_iconst (v := nI 0) C (by decide) dX9_add_58 ?_
        exact zm_ireturn C Rt (by show nc ≤ 0; omega) (by show ns ≤ 0; omega) w.1 dX9_add_59 w.2
      · replace w := w.2 z
        refine zm_iload_n C rfl 1 rfl dX9_add_32 ?_
        refine zm_i2l C dX9_add_33 ?_
        refine zm_aload_n C rfl 0 rfl dX9_add_34 ?_
        refine zm_getI C ff_X9_120 dX9_add_35 w (fun v3 w => ?_)
        refine zm_i2l C dX9_add_38 ?_
        refine zm_lmul C dX9_add_39 ?_
        refine zm_sipush (v := nI 20000) C (by decide) dX9_add_40 ?_
        refine zm_aload_n C rfl 0 rfl dX9_add_43 ?_
        refine zm_getR C ff_X9_7 dX9_add_44 w (fun v4 w => ?_)
        refine zm_aload_n C rfl 0 rfl dX9_add_47 ?_
        refine zm_getI C ff_X9_135 dX9_add_48 w (fun v5 w => ?_)
        refine zm_ldI C dX9_add_51 w (fun v6 w => ?_)
        refine zm_isub C dX9_add_52 ?_
        refine zm_i2l C dX9_add_53 ?_
        refine zm_lcmp C dX9_add_54 ?_
        refine zm_if_le (tgt := 60) C dX9_add_55 (by decide) (fun z => ?_) (fun z => ?_)
        · replace w := w.1 z
          refine zm_iconst (v := nI 0) C (by decide) dX9_add_60 ?_
          refine zm_istore_n (L' := [(0, .ref a0), (1, .int i1), (2, .int (nI 0))]) C rfl (by decide) [1, 2, 0] dX9_add_61 rfl ?_
          exact w
        · replace w := w.2 z
          refine zm_iconst (v := nI 0) C (by decide) dX9_add_58 ?_
          exact zm_ireturn C Rt (by show nc ≤ 0; omega) (by show ns ≤ 0; omega) w.1 dX9_add_59 w.2
set_option maxRecDepth 20000 in
theorem B_X9_add_62 {E : zm_E} {K : zm_K} {Post : zm_Po} {nc ns : Nat} (C : zm_Cx E K cX9_add RX9 1 0 0 0 4) (Rt : zm_Rt E Post 0 0 (some .boolean)) {a0 : Nat} {i1 : Int32} {i2 : Int32} {h : zm_H} (hnc : nc ≤ 0) (hns : ns ≤ 0) (w : (i1 ≤ i2 → narrow .boolean (.int (nI 1)) = .int (nI 1) ∧ Post (some (.int (nI 1))) h) ∧ (¬ i1 ≤ i2 → zm_Go E nc ns 69 [(0, .ref a0), (1, .int i1), (2, .int i2), (3, .int (nI 0))] [] h)) : zm_Go E nc ns 62 [(0, .ref a0), (1, .int i1), (2, .int i2)] [] h := by
  refine zm_iload_n C rfl 2 rfl dX9_add_62 ?_
  refine zm_iload_n C rfl 1 rfl dX9_add_63 ?_
  refine zm_icmp_ge (tgt := 146) C dX9_add_64 (by decide) (fun z => ?_) (fun z => ?_)
  · replace w := w.1 z
    refine zm_iconst (v := nI 1) C (by decide) dX9_add_146 ?_
    exact zm_ireturn C Rt (by show nc ≤ 0; omega) (by show ns ≤ 0; omega) w.1 dX9_add_147 w.2
  · replace w := w.2 z
    refine zm_iconst (v := nI 0) C (by decide) dX9_add_67 ?_
    refine zm_istore_n (L' := [(0, .ref a0), (1, .int i1), (2, .int i2), (3, .int (nI 0))]) C rfl (by decide) [1, 2, 3, 0] dX9_add_68 rfl ?_
    exact w
set_option maxRecDepth 20000 in
theorem B_X9_add_69 {E : zm_E} {K : zm_K} {Post : zm_Po} {nc ns : Nat} (C : zm_Cx E K cX9_add RX9 1 0 0 0 4) (Rt : zm_Rt E Post 0 0 (some .boolean)) {a0 : Nat} {i1 : Int32} {i2 : Int32} {i3 : Int32} {h : zm_H} (w : zm_gI h a0 9 14 fun v1 => (v1 ≤ i3 → zm_gR h a0 9 1 fun v2 => zm_gI h a0 9 7 fun v3 => zm_gR h a0 9 1 fun v4 => zm_gI h a0 9 7 fun v5 => zm_ld K 1 h v4 v5 fun v6 => zm_gI h a0 9 14 fun v7 => zm_sI K h v2 (v3 + (nI 1)) (v6 + v7) fun h1 => zm_gI h1 a0 9 7 fun v8 => zm_pf h1 a0 9 7 (.int (v8 + (nI 1))) fun h2 => zm_Go E nc ns 62 [(0, .ref a0), (1, .int i1), (2, .int (i2 + (nI 1)))] [] h2) ∧ (¬ v1 ≤ i3 → zm_gR h a0 9 4 fun v9 => zm_gR h a0 9 1 fun v10 => zm_gI h a0 9 7 fun v11 => zm_ld K 1 h v10 v11 fun v12 => zm_gR h a0 9 11 fun v13 => zm_ld K 1 h v13 i3 fun v14 => zm_sI K h v9 (v12 + i3) v14 fun h3 => zm_Go E nc ns 69 [(0, .ref a0), (1, .int i1), (2, .int i2), (3, .int (i3 + (nI 1)))] [] h3)) : zm_Go E nc ns 69 [(0, .ref a0), (1, .int i1), (2, .int i2), (3, .int i3)] [] h := by
  refine zm_iload_n C rfl 3 rfl dX9_add_69 ?_
  refine zm_aload_n C rfl 0 rfl dX9_add_70 ?_
  refine zm_getI C ff_X9_120 dX9_add_71 w (fun v1 w => ?_)
  refine zm_icmp_ge (tgt := 105) C dX9_add_74 (by decide) (fun z => ?_) (fun z => ?_)
  · replace w := w.1 z
    refine zm_aload_n C rfl 0 rfl dX9_add_105 ?_
    refine zm_getR C ff_X9_7 dX9_add_106 w (fun v2 w => ?_)
    refine zm_aload_n C rfl 0 rfl dX9_add_109 ?_
    refine zm_getI C ff_X9_135 dX9_add_110 w (fun v3 w => ?_)
    refine zm_iconst (v := nI 1) C (by decide) dX9_add_113 ?_
    refine zm_iadd C dX9_add_114 ?_
    refine zm_aload_n C rfl 0 rfl dX9_add_115 ?_
    refine zm_getR C ff_X9_7 dX9_add_116 w (fun v4 w => ?_)
    refine zm_aload_n C rfl 0 rfl dX9_add_119 ?_
    refine zm_getI C ff_X9_135 dX9_add_120 w (fun v5 w => ?_)
    refine zm_ldI C dX9_add_123 w (fun v6 w => ?_)
    refine zm_aload_n C rfl 0 rfl dX9_add_124 ?_
    refine zm_getI C ff_X9_120 dX9_add_125 w (fun v7 w => ?_)
    refine zm_iadd C dX9_add_128 ?_
    refine zm_stI C dX9_add_129 w (fun h1 w => ?_)
    refine zm_aload_n C rfl 0 rfl dX9_add_130 ?_
    refine zm_dup C rfl dX9_add_131 ?_
    refine zm_getI C ff_X9_135 dX9_add_132 w (fun v8 w => ?_)
    refine zm_iconst (v := nI 1) C (by decide) dX9_add_135 ?_
    refine zm_iadd C dX9_add_136 ?_
    refine zm_put C ff_X9_135 ft_X9 fp_X9_9_7 rfl rfl dX9_add_137 w (fun h2 w => ?_)
    refine zm_iinc (L' := [(0, .ref a0), (1, .int i1), (2, .int (i2 + (nI 1))), (3, .int i3)]) C (by decide) 2 [1, 2, 0, 3] dX9_add_140 rfl rfl rfl ?_
    refine zm_goto (tgt := 62) C dX9_add_143 (by decide) ?_
    exact zm_loc [0, 1, 2] rfl w
  · replace w := w.2 z
    refine zm_aload_n C rfl 0 rfl dX9_add_77 ?_
    refine zm_getR C ff_X9_19 dX9_add_78 w (fun v9 w => ?_)
    refine zm_aload_n C rfl 0 rfl dX9_add_81 ?_
    refine zm_getR C ff_X9_7 dX9_add_82 w (fun v10 w => ?_)
    refine zm_aload_n C rfl 0 rfl dX9_add_85 ?_
    refine zm_getI C ff_X9_135 dX9_add_86 w (fun v11 w => ?_)
    refine zm_ldI C dX9_add_89 w (fun v12 w => ?_)
    refine zm_iload_n C rfl 3 rfl dX9_add_90 ?_
    refine zm_iadd C dX9_add_91 ?_
    refine zm_aload_n C rfl 0 rfl dX9_add_92 ?_
    refine zm_getR C ff_X9_31 dX9_add_93 w (fun v13 w => ?_)
    refine zm_iload_n C rfl 3 rfl dX9_add_96 ?_
    refine zm_ldI C dX9_add_97 w (fun v14 w => ?_)
    refine zm_stI C dX9_add_98 w (fun h3 w => ?_)
    refine zm_iinc (L' := [(0, .ref a0), (1, .int i1), (2, .int i2), (3, .int (i3 + (nI 1)))]) C (by decide) 3 [1, 2, 3, 0] dX9_add_99 rfl rfl rfl ?_
    refine zm_goto (tgt := 69) C dX9_add_102 (by decide) ?_
    exact w
set_option maxRecDepth 20000 in
theorem B_X9_clear_0 {E : zm_E} {K : zm_K} {Post : zm_Po} {nc ns : Nat} (C : zm_Cx E K cX9_clear RX9 1 0 0 0 1) (Rt : zm_Rt E Post 0 0 none) {a0 : Nat} {h : zm_H} (hnc : nc ≤ 0) (hns : ns ≤ 0) (w : zm_pf h a0 9 0 (.int (nI 0)) fun h1 => zm_pf h1 a0 9 7 (.int (nI 0)) fun h2 => Post none h2) : zm_Go E nc ns 0 [(0, .ref a0)] [] h := by
  refine zm_aload_n C rfl 0 rfl dX9_clear_0 ?_
  refine zm_iconst (v := nI 0) C (by decide) dX9_clear_1 ?_
  refine zm_put C ff_X9_51 ft_X9 fp_X9_9_0 rfl rfl dX9_clear_2 w (fun h1 w => ?_)
  refine zm_aload_n C rfl 0 rfl dX9_clear_5 ?_
  refine zm_iconst (v := nI 0) C (by decide) dX9_clear_6 ?_
  refine zm_put C ff_X9_135 ft_X9 fp_X9_9_7 rfl rfl dX9_clear_7 w (fun h2 w => ?_)
  exact zm_return C Rt (by show nc ≤ 0; omega) (by show ns ≤ 0; omega) dX9_clear_10 w
set_option maxRecDepth 20000 in
theorem B_X9_lengthOf_0 {E : zm_E} {K : zm_K} {Post : zm_Po} {nc ns : Nat} (C : zm_Cx E K cX9_lengthOf RX9 1 0 0 0 2) (Rt : zm_Rt E Post 0 0 (some .int)) {a0 : Nat} {i1 : Int32} {h : zm_H} (hnc : nc ≤ 0) (hns : ns ≤ 0) (w : zm_gR h a0 9 1 fun v1 => zm_ld K 1 h v1 (i1 + (nI 1)) fun v2 => zm_gR h a0 9 1 fun v3 => zm_ld K 1 h v3 i1 fun v4 => Post (some (.int (v2 - v4))) h) : zm_Go E nc ns 0 [(0, .ref a0), (1, .int i1)] [] h := by
  refine zm_aload_n C rfl 0 rfl dX9_lengthOf_0 ?_
  refine zm_getR C ff_X9_7 dX9_lengthOf_1 w (fun v1 w => ?_)
  refine zm_iload_n C rfl 1 rfl dX9_lengthOf_4 ?_
  refine zm_iconst (v := nI 1) C (by decide) dX9_lengthOf_5 ?_
  refine zm_iadd C dX9_lengthOf_6 ?_
  refine zm_ldI C dX9_lengthOf_7 w (fun v2 w => ?_)
  refine zm_aload_n C rfl 0 rfl dX9_lengthOf_8 ?_
  refine zm_getR C ff_X9_7 dX9_lengthOf_9 w (fun v3 w => ?_)
  refine zm_iload_n C rfl 1 rfl dX9_lengthOf_12 ?_
  refine zm_ldI C dX9_lengthOf_13 w (fun v4 w => ?_)
  refine zm_isub C dX9_lengthOf_14 ?_
  exact zm_ireturn C Rt (by show nc ≤ 0; omega) (by show ns ≤ 0; omega) rfl dX9_lengthOf_15 w
set_option maxRecDepth 20000 in
theorem B_X9_same_0 {E : zm_E} {K : zm_K} {Post : zm_Po} {nc ns : Nat} (C : zm_Cx E K cX9_same RX9 2 21 0 0 5) (Rt : zm_Rt E Post 0 0 (some .boolean)) {a0 : Nat} {i1 : Int32} {i2 : Int32} {h : zm_H} (hnc : nc ≤ 0) (hns : ns ≤ 0) (w : zm_rc h a0 9 ∧ zm_ci K M_X9_lengthOf [.ref a0, .int i1] h fun v1 h1 => zm_rc h1 a0 9 ∧ zm_ci K M_X9_lengthOf [.ref a0, .int i2] h1 fun v2 h2 => (¬ v1 = v2 → zm_Go E nc ns 22 [(0, .ref a0), (1, .int i1), (2, .int i2), (3, .int (nI 0)), (4, .int (nI 0))] [] h2) ∧ (v1 = v2 → zm_Go E nc ns 22 [(0, .ref a0), (1, .int i1), (2, .int i2), (3, .int (nI 1)), (4, .int (nI 0))] [] h2)) : zm_Go E nc ns 0 [(0, .ref a0), (1, .int i1), (2, .int i2)] [] h := by
  refine zm_aload_n C rfl 0 rfl dX9_same_0 ?_
  refine zm_iload_n C rfl 1 rfl dX9_same_1 ?_
  obtain ⟨wr, w⟩ := w
  refine zm_Vi (As := [.int i1]) (rest := []) C M_X9_lengthOf sv_X9_138 rfl dX9_same_2 rfl (Nat.le_of_ble_eq_true rfl) (by decide) (by decide) (by show nc + 0 ≤ 0; omega) (by show ns + 0 ≤ 0; omega) wr w (fun v1 h1 w => ?_)
  refine zm_aload_n C rfl 0 rfl dX9_same_5 ?_
  refine zm_iload_n C rfl 2 rfl dX9_same_6 ?_
  obtain ⟨wr, w⟩ := w
  refine zm_Vi (As := [.int i2]) (rest := [.int v1]) C M_X9_lengthOf sv_X9_138 rfl dX9_same_7 rfl (Nat.le_of_ble_eq_true rfl) (by decide) (by decide) (by show nc + 0 ≤ 0; omega) (by show ns + 0 ≤ 0; omega) wr w (fun v2 h2 w => ?_)
  refine zm_icmp_ne (tgt := 17) C dX9_same_10 (by decide) (fun z => ?_) (fun z => ?_)
  · replace w := w.1 z
    refine zm_iconst (v := nI 0) C (by decide) dX9_same_17 ?_
    refine zm_istore_n (L' := [(0, .ref a0), (1, .int i1), (2, .int i2), (3, .int (nI 0))]) C rfl (by decide) [1, 2, 3, 0] dX9_same_18 rfl ?_
    refine zm_iconst (v := nI 0) C (by decide) dX9_same_19 ?_
    refine zm_istore (L' := [(0, .ref a0), (1, .int i1), (2, .int i2), (3, .int (nI 0)), (4, .int (nI 0))]) C (by decide) [1, 2, 3, 4, 0] dX9_same_20 rfl ?_
    exact w
  · replace w := w.2 z
    refine zm_iconst (v := nI 1) C (by decide) dX9_same_13 ?_
    refine zm_goto (tgt := 18) C dX9_same_14 (by decide) ?_
    refine zm_istore_n (L' := [(0, .ref a0), (1, .int i1), (2, .int i2), (3, .int (nI 1))]) C rfl (by decide) [1, 2, 3, 0] dX9_same_18 rfl ?_
    refine zm_iconst (v := nI 0) C (by decide) dX9_same_19 ?_
    refine zm_istore (L' := [(0, .ref a0), (1, .int i1), (2, .int i2), (3, .int (nI 1)), (4, .int (nI 0))]) C (by decide) [1, 2, 3, 4, 0] dX9_same_20 rfl ?_
    exact w
set_option maxRecDepth 20000 in
theorem B_X9_same_22 {E : zm_E} {K : zm_K} {Post : zm_Po} {nc ns : Nat} (C : zm_Cx E K cX9_same RX9 2 21 0 0 5) (Rt : zm_Rt E Post 0 0 (some .boolean)) {a0 : Nat} {i1 : Int32} {i2 : Int32} {i3 : Int32} {i4 : Int32} {h : zm_H} (hnc : nc ≤ 0) (hns : ns ≤ 0) (w : (i3 = 0 → narrow .boolean (.int i3) = .int i3 ∧ Post (some (.int i3)) h) ∧ (¬ i3 = 0 → zm_rc h a0 9 ∧ zm_ci K M_X9_lengthOf [.ref a0, .int i2] h fun v1 h1 => (v1 ≤ i4 → narrow .boolean (.int i3) = .int i3 ∧ Post (some (.int i3)) h1) ∧ (¬ v1 ≤ i4 → zm_gR h1 a0 9 4 fun v2 => zm_gR h1 a0 9 1 fun v3 => zm_ld K 1 h1 v3 i1 fun v4 => zm_ld K 1 h1 v2 (v4 + i4) fun v5 => zm_gR h1 a0 9 4 fun v6 => zm_gR h1 a0 9 1 fun v7 => zm_ld K 1 h1 v7 i2 fun v8 => zm_ld K 1 h1 v6 (v8 + i4) fun v9 => (¬ v5 = v9 → zm_Go E nc ns 22 [(0, .ref a0), (1, .int i1), (2, .int i2), (3, .int (nI 0)), (4, .int (i4 + (nI 1)))] [] h1) ∧ (v5 = v9 → zm_Go E nc ns 22 [(0, .ref a0), (1, .int i1), (2, .int i2), (3, .int (nI 1)), (4, .int (i4 + (nI 1)))] [] h1)))) : zm_Go E nc ns 22 [(0, .ref a0), (1, .int i1), (2, .int i2), (3, .int i3), (4, .int i4)] [] h := by
  refine zm_iload_n C rfl 3 rfl dX9_same_22 ?_
  refine zm_if_eq (tgt := 79) C dX9_same_23 (by decide) (fun z => ?_) (fun z => ?_)
  · replace w := w.1 z
    refine zm_iload_n C rfl 3 rfl dX9_same_79 ?_
    exact zm_ireturn C Rt (by show nc ≤ 0; omega) (by show ns ≤ 0; omega) w.1 dX9_same_80 w.2
  · replace w := w.2 z
    refine zm_iload C 4 rfl dX9_same_26 ?_
    refine zm_aload_n C rfl 0 rfl dX9_same_28 ?_
    refine zm_iload_n C rfl 2 rfl dX9_same_29 ?_
    obtain ⟨wr, w⟩ := w
    refine zm_Vi (As := [.int i2]) (rest := [.int i4]) C M_X9_lengthOf sv_X9_138 rfl dX9_same_30 rfl (Nat.le_of_ble_eq_true rfl) (by decide) (by decide) (by show nc + 0 ≤ 0; omega) (by show ns + 0 ≤ 0; omega) wr w (fun v1 h1 w => ?_)
    refine zm_icmp_ge (tgt := 79) C dX9_same_33 (by decide) (fun z => ?_) (fun z => ?_)
    · replace w := w.1 z
      refine zm_iload_n C rfl 3 rfl dX9_same_79 ?_
      exact zm_ireturn C Rt (by show nc ≤ 0; omega) (by show ns ≤ 0; omega) w.1 dX9_same_80 w.2
    · replace w := w.2 z
      refine zm_aload_n C rfl 0 rfl dX9_same_36 ?_
      refine zm_getR C ff_X9_19 dX9_same_37 w (fun v2 w => ?_)
      refine zm_aload_n C rfl 0 rfl dX9_same_40 ?_
      refine zm_getR C ff_X9_7 dX9_same_41 w (fun v3 w => ?_)
      refine zm_iload_n C rfl 1 rfl dX9_same_44 ?_
      refine zm_ldI C dX9_same_45 w (fun v4 w => ?_)
      refine zm_iload C 4 rfl dX9_same_46 ?_
      refine zm_iadd C dX9_same_48 ?_
      refine zm_ldI C dX9_same_49 w (fun v5 w => ?_)
      refine zm_aload_n C rfl 0 rfl dX9_same_50 ?_
      refine zm_getR C ff_X9_19 dX9_same_51 w (fun v6 w => ?_)
      refine zm_aload_n C rfl 0 rfl dX9_same_54 ?_
      refine zm_getR C ff_X9_7 dX9_same_55 w (fun v7 w => ?_)
      refine zm_iload_n C rfl 2 rfl dX9_same_58 ?_
      refine zm_ldI C dX9_same_59 w (fun v8 w => ?_)
      refine zm_iload C 4 rfl dX9_same_60 ?_
      refine zm_iadd C dX9_same_62 ?_
      refine zm_ldI C dX9_same_63 w (fun v9 w => ?_)
      refine zm_icmp_ne (tgt := 71) C dX9_same_64 (by decide) (fun z => ?_) (fun z => ?_)
      · replace w := w.1 z
        refine zm_iconst (v := nI 0) C (by decide) dX9_same_71 ?_
        refine zm_istore_n (L' := [(0, .ref a0), (1, .int i1), (2, .int i2), (3, .int (nI 0)), (4, .int i4)]) C rfl (by decide) [1, 2, 3, 0, 4] dX9_same_72 rfl ?_
        refine zm_iinc (L' := [(0, .ref a0), (1, .int i1), (2, .int i2), (3, .int (nI 0)), (4, .int (i4 + (nI 1)))]) C (by decide) 4 [1, 2, 3, 4, 0] dX9_same_73 rfl rfl rfl ?_
        refine zm_goto (tgt := 22) C dX9_same_76 (by decide) ?_
        exact w
      · replace w := w.2 z
        refine zm_iconst (v := nI 1) C (by decide) dX9_same_67 ?_
        refine zm_goto (tgt := 72) C dX9_same_68 (by decide) ?_
        refine zm_istore_n (L' := [(0, .ref a0), (1, .int i1), (2, .int i2), (3, .int (nI 1)), (4, .int i4)]) C rfl (by decide) [1, 2, 3, 0, 4] dX9_same_72 rfl ?_
        refine zm_iinc (L' := [(0, .ref a0), (1, .int i1), (2, .int i2), (3, .int (nI 1)), (4, .int (i4 + (nI 1)))]) C (by decide) 4 [1, 2, 3, 4, 0] dX9_same_73 rfl rfl rfl ?_
        refine zm_goto (tgt := 22) C dX9_same_76 (by decide) ?_
        exact w
set_option maxRecDepth 20000 in
theorem B_X9_firstLike_0 {E : zm_E} {K : zm_K} {Post : zm_Po} {nc ns : Nat} (C : zm_Cx E K cX9_firstLike RX9 3 45 0 0 3) (Rt : zm_Rt E Post 0 0 (some .int)) {a0 : Nat} {i1 : Int32} {h : zm_H} (w : zm_Go E nc ns 2 [(0, .ref a0), (1, .int i1), (2, .int (nI 0))] [] h) : zm_Go E nc ns 0 [(0, .ref a0), (1, .int i1)] [] h := by
  refine zm_iconst (v := nI 0) C (by decide) dX9_firstLike_0 ?_
  refine zm_istore_n (L' := [(0, .ref a0), (1, .int i1), (2, .int (nI 0))]) C rfl (by decide) [1, 2, 0] dX9_firstLike_1 rfl ?_
  exact w
set_option maxRecDepth 20000 in
theorem B_X9_firstLike_2 {E : zm_E} {K : zm_K} {Post : zm_Po} {nc ns : Nat} (C : zm_Cx E K cX9_firstLike RX9 3 45 0 0 3) (Rt : zm_Rt E Post 0 0 (some .int)) {a0 : Nat} {i1 : Int32} {i2 : Int32} {h : zm_H} (hnc : nc ≤ 0) (hns : ns ≤ 0) (w : zm_rc h a0 9 ∧ zm_ci K M_X9_same [.ref a0, .int i2, .int i1] h fun v1 h1 => (¬ v1 = 0 → Post (some (.int i2)) h1) ∧ (v1 = 0 → zm_Go E nc ns 2 [(0, .ref a0), (1, .int i1), (2, .int (i2 + (nI 1)))] [] h1)) : zm_Go E nc ns 2 [(0, .ref a0), (1, .int i1), (2, .int i2)] [] h := by
  refine zm_aload_n C rfl 0 rfl dX9_firstLike_2 ?_
  refine zm_iload_n C rfl 2 rfl dX9_firstLike_3 ?_
  refine zm_iload_n C rfl 1 rfl dX9_firstLike_4 ?_
  obtain ⟨wr, w⟩ := w
  refine zm_Vi (As := [.int i2, .int i1]) (rest := []) C M_X9_same sv_X9_142 rfl dX9_firstLike_5 rfl (Nat.le_of_ble_eq_true rfl) (by decide) (by decide) (by show nc + 0 ≤ 0; omega) (by show ns + 0 ≤ 0; omega) wr w (fun v1 h1 w => ?_)
  refine zm_if_ne (tgt := 17) C dX9_firstLike_8 (by decide) (fun z => ?_) (fun z => ?_)
  · replace w := w.1 z
    refine zm_iload_n C rfl 2 rfl dX9_firstLike_17 ?_
    exact zm_ireturn C Rt (by show nc ≤ 0; omega) (by show ns ≤ 0; omega) rfl dX9_firstLike_18 w
  · replace w := w.2 z
    refine zm_iinc (L' := [(0, .ref a0), (1, .int i1), (2, .int (i2 + (nI 1)))]) C (by decide) 2 [1, 2, 0] dX9_firstLike_11 rfl rfl rfl ?_
    refine zm_goto (tgt := 2) C dX9_firstLike_14 (by decide) ?_
    exact w
set_option maxRecDepth 20000 in
theorem B_X9_putText_0 {E : zm_E} {K : zm_K} {Post : zm_Po} {nc ns : Nat} (C : zm_Cx E K cX9_putText RX9 3 45 0 0 3) (Rt : zm_Rt E Post 0 0 none) {a0 : Nat} {i1 : Int32} {h : zm_H} (hnc : nc ≤ 0) (hns : ns ≤ 0) (w : zm_rc h a0 9 ∧ zm_ci K M_X9_lengthOf [.ref a0, .int i1] h fun v1 h1 => zm_rc h1 a0 9 ∧ zm_cv K M_X9_putVarint [.ref a0, .long v1.toInt64] h1 fun h2 => zm_gR h2 a0 9 1 fun v2 => zm_ld K 1 h2 v2 i1 fun v3 => zm_Go E nc ns 17 [(0, .ref a0), (1, .int i1), (2, .int v3)] [] h2) : zm_Go E nc ns 0 [(0, .ref a0), (1, .int i1)] [] h := by
  refine zm_aload_n C rfl 0 rfl dX9_putText_0 ?_
  refine zm_aload_n C rfl 0 rfl dX9_putText_1 ?_
  refine zm_iload_n C rfl 1 rfl dX9_putText_2 ?_
  obtain ⟨wr, w⟩ := w
  refine zm_Vi (As := [.int i1]) (rest := [.ref a0]) C M_X9_lengthOf sv_X9_138 rfl dX9_putText_3 rfl (Nat.le_of_ble_eq_true rfl) (by decide) (by decide) (by show nc + 0 ≤ 0; omega) (by show ns + 0 ≤ 0; omega) wr w (fun v1 h1 w => ?_)
  refine zm_i2l C dX9_putText_6 ?_
  obtain ⟨wr, w⟩ := w
  refine zm_Vv (As := [.long v1.toInt64]) (rest := []) C M_X9_putVarint sv_X9_76 rfl dX9_putText_7 rfl (Nat.le_of_ble_eq_true rfl) (by decide) (by decide) (by show nc + 0 ≤ 0; omega) (by show ns + 0 ≤ 0; omega) wr w (fun h2 w => ?_)
  refine zm_aload_n C rfl 0 rfl dX9_putText_10 ?_
  refine zm_getR C ff_X9_7 dX9_putText_11 w (fun v2 w => ?_)
  refine zm_iload_n C rfl 1 rfl dX9_putText_14 ?_
  refine zm_ldI C dX9_putText_15 w (fun v3 w => ?_)
  refine zm_istore_n (L' := [(0, .ref a0), (1, .int i1), (2, .int v3)]) C rfl (by decide) [1, 2, 0] dX9_putText_16 rfl ?_
  exact w
set_option maxRecDepth 20000 in
theorem B_X9_putText_17 {E : zm_E} {K : zm_K} {Post : zm_Po} {nc ns : Nat} (C : zm_Cx E K cX9_putText RX9 3 45 0 0 3) (Rt : zm_Rt E Post 0 0 none) {a0 : Nat} {i1 : Int32} {i2 : Int32} {h : zm_H} (hnc : nc ≤ 0) (hns : ns ≤ 0) (w : zm_gR h a0 9 1 fun v1 => zm_ld K 1 h v1 (i1 + (nI 1)) fun v2 => (v2 ≤ i2 → Post none h) ∧ (¬ v2 ≤ i2 → zm_gR h a0 9 4 fun v3 => zm_ld K 1 h v3 i2 fun v4 => zm_rc h a0 9 ∧ zm_cv K M_X9_put [.ref a0, .int v4] h fun h1 => zm_Go E nc ns 17 [(0, .ref a0), (1, .int i1), (2, .int (i2 + (nI 1)))] [] h1)) : zm_Go E nc ns 17 [(0, .ref a0), (1, .int i1), (2, .int i2)] [] h := by
  refine zm_iload_n C rfl 2 rfl dX9_putText_17 ?_
  refine zm_aload_n C rfl 0 rfl dX9_putText_18 ?_
  refine zm_getR C ff_X9_7 dX9_putText_19 w (fun v1 w => ?_)
  refine zm_iload_n C rfl 1 rfl dX9_putText_22 ?_
  refine zm_iconst (v := nI 1) C (by decide) dX9_putText_23 ?_
  refine zm_iadd C dX9_putText_24 ?_
  refine zm_ldI C dX9_putText_25 w (fun v2 w => ?_)
  refine zm_icmp_ge (tgt := 45) C dX9_putText_26 (by decide) (fun z => ?_) (fun z => ?_)
  · replace w := w.1 z
    exact zm_return C Rt (by show nc ≤ 0; omega) (by show ns ≤ 0; omega) dX9_putText_45 w
  · replace w := w.2 z
    refine zm_aload_n C rfl 0 rfl dX9_putText_29 ?_
    refine zm_aload_n C rfl 0 rfl dX9_putText_30 ?_
    refine zm_getR C ff_X9_19 dX9_putText_31 w (fun v3 w => ?_)
    refine zm_iload_n C rfl 2 rfl dX9_putText_34 ?_
    refine zm_ldI C dX9_putText_35 w (fun v4 w => ?_)
    obtain ⟨wr, w⟩ := w
    refine zm_Vv (As := [.int v4]) (rest := []) C M_X9_put sv_X9_66 rfl dX9_putText_36 rfl (Nat.le_of_ble_eq_true rfl) (by decide) (by decide) (by show nc + 0 ≤ 0; omega) (by show ns + 0 ≤ 0; omega) wr w (fun h1 w => ?_)
    refine zm_iinc (L' := [(0, .ref a0), (1, .int i1), (2, .int (i2 + (nI 1)))]) C (by decide) 2 [1, 2, 0] dX9_putText_39 rfl rfl rfl ?_
    refine zm_goto (tgt := 17) C dX9_putText_42 (by decide) ?_
    exact w
set_option maxRecDepth 20000 in
theorem B_X9_writeLengths_0 {E : zm_E} {K : zm_K} {Post : zm_Po} {nc ns : Nat} (C : zm_Cx E K cX9_writeLengths RX9 5 97 0 0 2) (Rt : zm_Rt E Post 0 0 none) {a0 : Nat} {h : zm_H} (w : zm_gI h a0 9 7 fun v1 => zm_pf h a0 9 19 (.int v1) fun h1 => zm_Go E nc ns 10 [(0, .ref a0), (1, .int (nI 0))] [] h1) : zm_Go E nc ns 0 [(0, .ref a0)] [] h := by
  refine zm_aload_n C rfl 0 rfl dX9_writeLengths_0 ?_
  refine zm_aload_n C rfl 0 rfl dX9_writeLengths_1 ?_
  refine zm_getI C ff_X9_135 dX9_writeLengths_2 w (fun v1 w => ?_)
  refine zm_put C ff_X9_102 ft_X9 fp_X9_9_19 rfl rfl dX9_writeLengths_5 w (fun h1 w => ?_)
  refine zm_iconst (v := nI 0) C (by decide) dX9_writeLengths_8 ?_
  refine zm_istore_n (L' := [(0, .ref a0), (1, .int (nI 0))]) C rfl (by decide) [1, 0] dX9_writeLengths_9 rfl ?_
  exact w
set_option maxRecDepth 20000 in
theorem B_X9_writeLengths_10 {E : zm_E} {K : zm_K} {Post : zm_Po} {nc ns : Nat} (C : zm_Cx E K cX9_writeLengths RX9 5 97 0 0 2) (Rt : zm_Rt E Post 0 0 none) {a0 : Nat} {i1 : Int32} {h : zm_H} (hnc : nc ≤ 0) (hns : ns ≤ 0) (w : zm_gI h a0 9 7 fun v1 => (v1 ≤ i1 → zm_rc h a0 9 ∧ zm_cv K M_X9_writeCode [.ref a0] h fun h1 => zm_Go E nc ns 42 [(0, .ref a0), (1, .int (nI 0))] [] h1) ∧ (¬ v1 ≤ i1 → zm_gR h a0 9 18 fun v2 => zm_rc h a0 9 ∧ zm_ci K M_X9_lengthOf [.ref a0, .int i1] h fun v3 h2 => zm_sL K h2 v2 i1 v3.toInt64 fun h3 => zm_Go E nc ns 10 [(0, .ref a0), (1, .int (i1 + (nI 1)))] [] h3)) : zm_Go E nc ns 10 [(0, .ref a0), (1, .int i1)] [] h := by
  refine zm_iload_n C rfl 1 rfl dX9_writeLengths_10 ?_
  refine zm_aload_n C rfl 0 rfl dX9_writeLengths_11 ?_
  refine zm_getI C ff_X9_135 dX9_writeLengths_12 w (fun v1 w => ?_)
  refine zm_icmp_ge (tgt := 36) C dX9_writeLengths_15 (by decide) (fun z => ?_) (fun z => ?_)
  · replace w := w.1 z
    refine zm_aload_n C rfl 0 rfl dX9_writeLengths_36 ?_
    obtain ⟨wr, w⟩ := w
    refine zm_Vv (As := []) (rest := []) C M_X9_writeCode sv_X9_146 rfl dX9_writeLengths_37 rfl (Nat.le_of_ble_eq_true rfl) (by decide) (by decide) (by show nc + 0 ≤ 0; omega) (by show ns + 0 ≤ 0; omega) wr w (fun h1 w => ?_)
    refine zm_iconst (v := nI 0) C (by decide) dX9_writeLengths_40 ?_
    refine zm_istore_n (L' := [(0, .ref a0), (1, .int (nI 0))]) C rfl (by decide) [1, 0] dX9_writeLengths_41 rfl ?_
    exact w
  · replace w := w.2 z
    refine zm_aload_n C rfl 0 rfl dX9_writeLengths_18 ?_
    refine zm_getR C ff_X9_38 dX9_writeLengths_19 w (fun v2 w => ?_)
    refine zm_iload_n C rfl 1 rfl dX9_writeLengths_22 ?_
    refine zm_aload_n C rfl 0 rfl dX9_writeLengths_23 ?_
    refine zm_iload_n C rfl 1 rfl dX9_writeLengths_24 ?_
    obtain ⟨wr, w⟩ := w
    refine zm_Vi (As := [.int i1]) (rest := [.int i1, .ref v2]) C M_X9_lengthOf sv_X9_138 rfl dX9_writeLengths_25 rfl (Nat.le_of_ble_eq_true rfl) (by decide) (by decide) (by show nc + 0 ≤ 0; omega) (by show ns + 0 ≤ 0; omega) wr w (fun v3 h2 w => ?_)
    refine zm_i2l C dX9_writeLengths_28 ?_
    refine zm_stL C dX9_writeLengths_29 w (fun h3 w => ?_)
    refine zm_iinc (L' := [(0, .ref a0), (1, .int (i1 + (nI 1)))]) C (by decide) 1 [1, 0] dX9_writeLengths_30 rfl rfl rfl ?_
    refine zm_goto (tgt := 10) C dX9_writeLengths_33 (by decide) ?_
    exact w
set_option maxRecDepth 20000 in
theorem B_X9_writeLengths_42 {E : zm_E} {K : zm_K} {Post : zm_Po} {nc ns : Nat} (C : zm_Cx E K cX9_writeLengths RX9 5 97 0 0 2) (Rt : zm_Rt E Post 0 0 none) {a0 : Nat} {i1 : Int32} {h : zm_H} (hnc : nc ≤ 0) (hns : ns ≤ 0) (w : zm_gR h a0 9 1 fun v1 => zm_gI h a0 9 7 fun v2 => zm_ld K 1 h v1 v2 fun v3 => (v3 ≤ i1 → Post none h) ∧ (¬ v3 ≤ i1 → zm_gR h a0 9 4 fun v4 => zm_ld K 1 h v4 i1 fun v5 => zm_rc h a0 9 ∧ zm_cv K M_X9_put [.ref a0, .int v5] h fun h1 => zm_Go E nc ns 42 [(0, .ref a0), (1, .int (i1 + (nI 1)))] [] h1)) : zm_Go E nc ns 42 [(0, .ref a0), (1, .int i1)] [] h := by
  refine zm_iload_n C rfl 1 rfl dX9_writeLengths_42 ?_
  refine zm_aload_n C rfl 0 rfl dX9_writeLengths_43 ?_
  refine zm_getR C ff_X9_7 dX9_writeLengths_44 w (fun v1 w => ?_)
  refine zm_aload_n C rfl 0 rfl dX9_writeLengths_47 ?_
  refine zm_getI C ff_X9_135 dX9_writeLengths_48 w (fun v2 w => ?_)
  refine zm_ldI C dX9_writeLengths_51 w (fun v3 w => ?_)
  refine zm_icmp_ge (tgt := 71) C dX9_writeLengths_52 (by decide) (fun z => ?_) (fun z => ?_)
  · replace w := w.1 z
    exact zm_return C Rt (by show nc ≤ 0; omega) (by show ns ≤ 0; omega) dX9_writeLengths_71 w
  · replace w := w.2 z
    refine zm_aload_n C rfl 0 rfl dX9_writeLengths_55 ?_
    refine zm_aload_n C rfl 0 rfl dX9_writeLengths_56 ?_
    refine zm_getR C ff_X9_19 dX9_writeLengths_57 w (fun v4 w => ?_)
    refine zm_iload_n C rfl 1 rfl dX9_writeLengths_60 ?_
    refine zm_ldI C dX9_writeLengths_61 w (fun v5 w => ?_)
    obtain ⟨wr, w⟩ := w
    refine zm_Vv (As := [.int v5]) (rest := []) C M_X9_put sv_X9_66 rfl dX9_writeLengths_62 rfl (Nat.le_of_ble_eq_true rfl) (by decide) (by decide) (by show nc + 0 ≤ 0; omega) (by show ns + 0 ≤ 0; omega) wr w (fun h1 w => ?_)
    refine zm_iinc (L' := [(0, .ref a0), (1, .int (i1 + (nI 1)))]) C (by decide) 1 [1, 0] dX9_writeLengths_65 rfl rfl rfl ?_
    refine zm_goto (tgt := 42) C dX9_writeLengths_68 (by decide) ?_
    exact w
set_option maxRecDepth 20000 in
theorem B_X9_inCommon_0 {E : zm_E} {K : zm_K} {Post : zm_Po} {nc ns : Nat} (C : zm_Cx E K cX9_inCommon RX9 2 21 0 0 3) (Rt : zm_Rt E Post 0 0 (some .int)) {a0 : Nat} {i1 : Int32} {h : zm_H} (w : zm_Go E nc ns 2 [(0, .ref a0), (1, .int i1), (2, .int (nI 0))] [] h) : zm_Go E nc ns 0 [(0, .ref a0), (1, .int i1)] [] h := by
  refine zm_iconst (v := nI 0) C (by decide) dX9_inCommon_0 ?_
  refine zm_istore_n (L' := [(0, .ref a0), (1, .int i1), (2, .int (nI 0))]) C rfl (by decide) [1, 2, 0] dX9_inCommon_1 rfl ?_
  exact w
set_option maxRecDepth 20000 in
theorem B_X9_inCommon_2 {E : zm_E} {K : zm_K} {Post : zm_Po} {nc ns : Nat} (C : zm_Cx E K cX9_inCommon RX9 2 21 0 0 3) (Rt : zm_Rt E Post 0 0 (some .int)) {a0 : Nat} {i1 : Int32} {i2 : Int32} {h : zm_H} (hnc : nc ≤ 0) (hns : ns ≤ 0) (w : (i1 ≤ 0 → Post (some (.int i2)) h) ∧ (¬ i1 ≤ 0 → zm_rc h a0 9 ∧ zm_ci K M_X9_lengthOf [.ref a0, .int i1] h fun v1 h1 => (v1 ≤ i2 → Post (some (.int i2)) h1) ∧ (¬ v1 ≤ i2 → zm_rc h1 a0 9 ∧ zm_ci K M_X9_lengthOf [.ref a0, .int (i1 - (nI 1))] h1 fun v2 h2 => (v2 ≤ i2 → Post (some (.int i2)) h2) ∧ (¬ v2 ≤ i2 → zm_gR h2 a0 9 4 fun v3 => zm_gR h2 a0 9 1 fun v4 => zm_ld K 1 h2 v4 i1 fun v5 => zm_ld K 1 h2 v3 (v5 + i2) fun v6 => zm_gR h2 a0 9 4 fun v7 => zm_gR h2 a0 9 1 fun v8 => zm_ld K 1 h2 v8 (i1 - (nI 1)) fun v9 => zm_ld K 1 h2 v7 (v9 + i2) fun v10 => (¬ v6 = v10 → Post (some (.int i2)) h2) ∧ (v6 = v10 → zm_Go E nc ns 2 [(0, .ref a0), (1, .int i1), (2, .int (i2 + (nI 1)))] [] h2))))) : zm_Go E nc ns 2 [(0, .ref a0), (1, .int i1), (2, .int i2)] [] h := by
  refine zm_iload_n C rfl 1 rfl dX9_inCommon_2 ?_
  refine zm_if_le (tgt := 63) C dX9_inCommon_3 (by decide) (fun z => ?_) (fun z => ?_)
  · replace w := w.1 z
    refine zm_iload_n C rfl 2 rfl dX9_inCommon_63 ?_
    exact zm_ireturn C Rt (by show nc ≤ 0; omega) (by show ns ≤ 0; omega) rfl dX9_inCommon_64 w
  · replace w := w.2 z
    refine zm_iload_n C rfl 2 rfl dX9_inCommon_6 ?_
    refine zm_aload_n C rfl 0 rfl dX9_inCommon_7 ?_
    refine zm_iload_n C rfl 1 rfl dX9_inCommon_8 ?_
    obtain ⟨wr, w⟩ := w
    refine zm_Vi (As := [.int i1]) (rest := [.int i2]) C M_X9_lengthOf sv_X9_138 rfl dX9_inCommon_9 rfl (Nat.le_of_ble_eq_true rfl) (by decide) (by decide) (by show nc + 0 ≤ 0; omega) (by show ns + 0 ≤ 0; omega) wr w (fun v1 h1 w => ?_)
    refine zm_icmp_ge (tgt := 63) C dX9_inCommon_12 (by decide) (fun z => ?_) (fun z => ?_)
    · replace w := w.1 z
      refine zm_iload_n C rfl 2 rfl dX9_inCommon_63 ?_
      exact zm_ireturn C Rt (by show nc ≤ 0; omega) (by show ns ≤ 0; omega) rfl dX9_inCommon_64 w
    · replace w := w.2 z
      refine zm_iload_n C rfl 2 rfl dX9_inCommon_15 ?_
      refine zm_aload_n C rfl 0 rfl dX9_inCommon_16 ?_
      refine zm_iload_n C rfl 1 rfl dX9_inCommon_17 ?_
      refine zm_iconst (v := nI 1) C (by decide) dX9_inCommon_18 ?_
      refine zm_isub C dX9_inCommon_19 ?_
      obtain ⟨wr, w⟩ := w
      refine zm_Vi (As := [.int (i1 - (nI 1))]) (rest := [.int i2]) C M_X9_lengthOf sv_X9_138 rfl dX9_inCommon_20 rfl (Nat.le_of_ble_eq_true rfl) (by decide) (by decide) (by show nc + 0 ≤ 0; omega) (by show ns + 0 ≤ 0; omega) wr w (fun v2 h2 w => ?_)
      refine zm_icmp_ge (tgt := 63) C dX9_inCommon_23 (by decide) (fun z => ?_) (fun z => ?_)
      · replace w := w.1 z
        refine zm_iload_n C rfl 2 rfl dX9_inCommon_63 ?_
        exact zm_ireturn C Rt (by show nc ≤ 0; omega) (by show ns ≤ 0; omega) rfl dX9_inCommon_64 w
      · replace w := w.2 z
        refine zm_aload_n C rfl 0 rfl dX9_inCommon_26 ?_
        refine zm_getR C ff_X9_19 dX9_inCommon_27 w (fun v3 w => ?_)
        refine zm_aload_n C rfl 0 rfl dX9_inCommon_30 ?_
        refine zm_getR C ff_X9_7 dX9_inCommon_31 w (fun v4 w => ?_)
        refine zm_iload_n C rfl 1 rfl dX9_inCommon_34 ?_
        refine zm_ldI C dX9_inCommon_35 w (fun v5 w => ?_)
        refine zm_iload_n C rfl 2 rfl dX9_inCommon_36 ?_
        refine zm_iadd C dX9_inCommon_37 ?_
        refine zm_ldI C dX9_inCommon_38 w (fun v6 w => ?_)
        refine zm_aload_n C rfl 0 rfl dX9_inCommon_39 ?_
        refine zm_getR C ff_X9_19 dX9_inCommon_40 w (fun v7 w => ?_)
        refine zm_aload_n C rfl 0 rfl dX9_inCommon_43 ?_
        refine zm_getR C ff_X9_7 dX9_inCommon_44 w (fun v8 w => ?_)
        refine zm_iload_n C rfl 1 rfl dX9_inCommon_47 ?_
        refine zm_iconst (v := nI 1) C (by decide) dX9_inCommon_48 ?_
        refine zm_isub C dX9_inCommon_49 ?_
        refine zm_ldI C dX9_inCommon_50 w (fun v9 w => ?_)
        refine zm_iload_n C rfl 2 rfl dX9_inCommon_51 ?_
        refine zm_iadd C dX9_inCommon_52 ?_
        refine zm_ldI C dX9_inCommon_53 w (fun v10 w => ?_)
        refine zm_icmp_ne (tgt := 63) C dX9_inCommon_54 (by decide) (fun z => ?_) (fun z => ?_)
        · replace w := w.1 z
          refine zm_iload_n C rfl 2 rfl dX9_inCommon_63 ?_
          exact zm_ireturn C Rt (by show nc ≤ 0; omega) (by show ns ≤ 0; omega) rfl dX9_inCommon_64 w
        · replace w := w.2 z
          refine zm_iinc (L' := [(0, .ref a0), (1, .int i1), (2, .int (i2 + (nI 1)))]) C (by decide) 2 [1, 2, 0] dX9_inCommon_57 rfl rfl rfl ?_
          refine zm_goto (tgt := 2) C dX9_inCommon_60 (by decide) ?_
          exact w
set_option maxRecDepth 20000 in
theorem B_X9_writeFront_0 {E : zm_E} {K : zm_K} {Post : zm_Po} {nc ns : Nat} (C : zm_Cx E K cX9_writeFront RX9 5 97 0 0 3) (Rt : zm_Rt E Post 0 0 none) {a0 : Nat} {h : zm_H} (w : zm_gI h a0 9 7 fun v1 => zm_pf h a0 9 19 (.int v1) fun h1 => zm_Go E nc ns 10 [(0, .ref a0), (1, .int (nI 0))] [] h1) : zm_Go E nc ns 0 [(0, .ref a0)] [] h := by
  refine zm_aload_n C rfl 0 rfl dX9_writeFront_0 ?_
  refine zm_aload_n C rfl 0 rfl dX9_writeFront_1 ?_
  refine zm_getI C ff_X9_135 dX9_writeFront_2 w (fun v1 w => ?_)
  refine zm_put C ff_X9_102 ft_X9 fp_X9_9_19 rfl rfl dX9_writeFront_5 w (fun h1 w => ?_)
  refine zm_iconst (v := nI 0) C (by decide) dX9_writeFront_8 ?_
  refine zm_istore_n (L' := [(0, .ref a0), (1, .int (nI 0))]) C rfl (by decide) [1, 0] dX9_writeFront_9 rfl ?_
  exact w
set_option maxRecDepth 20000 in
theorem B_X9_writeFront_10 {E : zm_E} {K : zm_K} {Post : zm_Po} {nc ns : Nat} (C : zm_Cx E K cX9_writeFront RX9 5 97 0 0 3) (Rt : zm_Rt E Post 0 0 none) {a0 : Nat} {i1 : Int32} {h : zm_H} (hnc : nc ≤ 0) (hns : ns ≤ 0) (w : zm_gI h a0 9 7 fun v1 => (v1 ≤ i1 → zm_rc h a0 9 ∧ zm_cv K M_X9_writeCode [.ref a0] h fun h1 => zm_Go E nc ns 42 [(0, .ref a0), (1, .int (nI 0))] [] h1) ∧ (¬ v1 ≤ i1 → zm_gR h a0 9 18 fun v2 => zm_rc h a0 9 ∧ zm_ci K M_X9_inCommon [.ref a0, .int i1] h fun v3 h2 => zm_sL K h2 v2 i1 v3.toInt64 fun h3 => zm_Go E nc ns 10 [(0, .ref a0), (1, .int (i1 + (nI 1)))] [] h3)) : zm_Go E nc ns 10 [(0, .ref a0), (1, .int i1)] [] h := by
  refine zm_iload_n C rfl 1 rfl dX9_writeFront_10 ?_
  refine zm_aload_n C rfl 0 rfl dX9_writeFront_11 ?_
  refine zm_getI C ff_X9_135 dX9_writeFront_12 w (fun v1 w => ?_)
  refine zm_icmp_ge (tgt := 36) C dX9_writeFront_15 (by decide) (fun z => ?_) (fun z => ?_)
  · replace w := w.1 z
    refine zm_aload_n C rfl 0 rfl dX9_writeFront_36 ?_
    obtain ⟨wr, w⟩ := w
    refine zm_Vv (As := []) (rest := []) C M_X9_writeCode sv_X9_146 rfl dX9_writeFront_37 rfl (Nat.le_of_ble_eq_true rfl) (by decide) (by decide) (by show nc + 0 ≤ 0; omega) (by show ns + 0 ≤ 0; omega) wr w (fun h1 w => ?_)
    refine zm_iconst (v := nI 0) C (by decide) dX9_writeFront_40 ?_
    refine zm_istore_n (L' := [(0, .ref a0), (1, .int (nI 0))]) C rfl (by decide) [1, 0] dX9_writeFront_41 rfl ?_
    exact w
  · replace w := w.2 z
    refine zm_aload_n C rfl 0 rfl dX9_writeFront_18 ?_
    refine zm_getR C ff_X9_38 dX9_writeFront_19 w (fun v2 w => ?_)
    refine zm_iload_n C rfl 1 rfl dX9_writeFront_22 ?_
    refine zm_aload_n C rfl 0 rfl dX9_writeFront_23 ?_
    refine zm_iload_n C rfl 1 rfl dX9_writeFront_24 ?_
    obtain ⟨wr, w⟩ := w
    refine zm_Vi (As := [.int i1]) (rest := [.int i1, .ref v2]) C M_X9_inCommon sv_X9_149 rfl dX9_writeFront_25 rfl (Nat.le_of_ble_eq_true rfl) (by decide) (by decide) (by show nc + 0 ≤ 0; omega) (by show ns + 0 ≤ 0; omega) wr w (fun v3 h2 w => ?_)
    refine zm_i2l C dX9_writeFront_28 ?_
    refine zm_stL C dX9_writeFront_29 w (fun h3 w => ?_)
    refine zm_iinc (L' := [(0, .ref a0), (1, .int (i1 + (nI 1)))]) C (by decide) 1 [1, 0] dX9_writeFront_30 rfl rfl rfl ?_
    refine zm_goto (tgt := 10) C dX9_writeFront_33 (by decide) ?_
    exact w
set_option maxRecDepth 20000 in
theorem B_X9_writeFront_42 {E : zm_E} {K : zm_K} {Post : zm_Po} {nc ns : Nat} (C : zm_Cx E K cX9_writeFront RX9 5 97 0 0 3) (Rt : zm_Rt E Post 0 0 none) {a0 : Nat} {i1 : Int32} {h : zm_H} (hnc : nc ≤ 0) (hns : ns ≤ 0) (w : zm_gI h a0 9 7 fun v1 => (v1 ≤ i1 → zm_rc h a0 9 ∧ zm_cv K M_X9_writeCode [.ref a0] h fun h1 => zm_Go E nc ns 80 [(0, .ref a0), (1, .int (nI 0))] [] h1) ∧ (¬ v1 ≤ i1 → zm_gR h a0 9 18 fun v2 => zm_rc h a0 9 ∧ zm_ci K M_X9_lengthOf [.ref a0, .int i1] h fun v3 h2 => zm_rc h2 a0 9 ∧ zm_ci K M_X9_inCommon [.ref a0, .int i1] h2 fun v4 h3 => zm_sL K h3 v2 i1 ((v3 - v4).toInt64) fun h4 => zm_Go E nc ns 42 [(0, .ref a0), (1, .int (i1 + (nI 1)))] [] h4)) : zm_Go E nc ns 42 [(0, .ref a0), (1, .int i1)] [] h := by
  refine zm_iload_n C rfl 1 rfl dX9_writeFront_42 ?_
  refine zm_aload_n C rfl 0 rfl dX9_writeFront_43 ?_
  refine zm_getI C ff_X9_135 dX9_writeFront_44 w (fun v1 w => ?_)
  refine zm_icmp_ge (tgt := 74) C dX9_writeFront_47 (by decide) (fun z => ?_) (fun z => ?_)
  · replace w := w.1 z
    refine zm_aload_n C rfl 0 rfl dX9_writeFront_74 ?_
    obtain ⟨wr, w⟩ := w
    refine zm_Vv (As := []) (rest := []) C M_X9_writeCode sv_X9_146 rfl dX9_writeFront_75 rfl (Nat.le_of_ble_eq_true rfl) (by decide) (by decide) (by show nc + 0 ≤ 0; omega) (by show ns + 0 ≤ 0; omega) wr w (fun h1 w => ?_)
    refine zm_iconst (v := nI 0) C (by decide) dX9_writeFront_78 ?_
    refine zm_istore_n (L' := [(0, .ref a0), (1, .int (nI 0))]) C rfl (by decide) [1, 0] dX9_writeFront_79 rfl ?_
    exact w
  · replace w := w.2 z
    refine zm_aload_n C rfl 0 rfl dX9_writeFront_50 ?_
    refine zm_getR C ff_X9_38 dX9_writeFront_51 w (fun v2 w => ?_)
    refine zm_iload_n C rfl 1 rfl dX9_writeFront_54 ?_
    refine zm_aload_n C rfl 0 rfl dX9_writeFront_55 ?_
    refine zm_iload_n C rfl 1 rfl dX9_writeFront_56 ?_
    obtain ⟨wr, w⟩ := w
    refine zm_Vi (As := [.int i1]) (rest := [.int i1, .ref v2]) C M_X9_lengthOf sv_X9_138 rfl dX9_writeFront_57 rfl (Nat.le_of_ble_eq_true rfl) (by decide) (by decide) (by show nc + 0 ≤ 0; omega) (by show ns + 0 ≤ 0; omega) wr w (fun v3 h2 w => ?_)
    refine zm_aload_n C rfl 0 rfl dX9_writeFront_60 ?_
    refine zm_iload_n C rfl 1 rfl dX9_writeFront_61 ?_
    obtain ⟨wr, w⟩ := w
    refine zm_Vi (As := [.int i1]) (rest := [.int v3, .int i1, .ref v2]) C M_X9_inCommon sv_X9_149 rfl dX9_writeFront_62 rfl (Nat.le_of_ble_eq_true rfl) (by decide) (by decide) (by show nc + 0 ≤ 0; omega) (by show ns + 0 ≤ 0; omega) wr w (fun v4 h3 w => ?_)
    refine zm_isub C dX9_writeFront_65 ?_
    refine zm_i2l C dX9_writeFront_66 ?_
    refine zm_stL C dX9_writeFront_67 w (fun h4 w => ?_)
    refine zm_iinc (L' := [(0, .ref a0), (1, .int (i1 + (nI 1)))]) C (by decide) 1 [1, 0] dX9_writeFront_68 rfl rfl rfl ?_
    refine zm_goto (tgt := 42) C dX9_writeFront_71 (by decide) ?_
    exact w
set_option maxRecDepth 20000 in
theorem B_X9_writeFront_80 {E : zm_E} {K : zm_K} {Post : zm_Po} {nc ns : Nat} (C : zm_Cx E K cX9_writeFront RX9 5 97 0 0 3) (Rt : zm_Rt E Post 0 0 none) {a0 : Nat} {i1 : Int32} {h : zm_H} (hnc : nc ≤ 0) (hns : ns ≤ 0) (w : zm_gI h a0 9 7 fun v1 => (v1 ≤ i1 → Post none h) ∧ (¬ v1 ≤ i1 → zm_gR h a0 9 1 fun v2 => zm_ld K 1 h v2 i1 fun v3 => zm_rc h a0 9 ∧ zm_ci K M_X9_inCommon [.ref a0, .int i1] h fun v4 h1 => zm_Go E nc ns 101 [(0, .ref a0), (1, .int i1), (2, .int (v3 + v4))] [] h1)) : zm_Go E nc ns 80 [(0, .ref a0), (1, .int i1)] [] h := by
  refine zm_iload_n C rfl 1 rfl dX9_writeFront_80 ?_
  refine zm_aload_n C rfl 0 rfl dX9_writeFront_81 ?_
  refine zm_getI C ff_X9_135 dX9_writeFront_82 w (fun v1 w => ?_)
  refine zm_icmp_ge (tgt := 135) C dX9_writeFront_85 (by decide) (fun z => ?_) (fun z => ?_)
  · replace w := w.1 z
    exact zm_return C Rt (by show nc ≤ 0; omega) (by show ns ≤ 0; omega) dX9_writeFront_135 w
  · replace w := w.2 z
    refine zm_aload_n C rfl 0 rfl dX9_writeFront_88 ?_
    refine zm_getR C ff_X9_7 dX9_writeFront_89 w (fun v2 w => ?_)
    refine zm_iload_n C rfl 1 rfl dX9_writeFront_92 ?_
    refine zm_ldI C dX9_writeFront_93 w (fun v3 w => ?_)
    refine zm_aload_n C rfl 0 rfl dX9_writeFront_94 ?_
    refine zm_iload_n C rfl 1 rfl dX9_writeFront_95 ?_
    obtain ⟨wr, w⟩ := w
    refine zm_Vi (As := [.int i1]) (rest := [.int v3]) C M_X9_inCommon sv_X9_149 rfl dX9_writeFront_96 rfl (Nat.le_of_ble_eq_true rfl) (by decide) (by decide) (by show nc + 0 ≤ 0; omega) (by show ns + 0 ≤ 0; omega) wr w (fun v4 h1 w => ?_)
    refine zm_iadd C dX9_writeFront_99 ?_
    refine zm_istore_n (L' := [(0, .ref a0), (1, .int i1), (2, .int (v3 + v4))]) C rfl (by decide) [1, 2, 0] dX9_writeFront_100 rfl ?_
    exact w
set_option maxRecDepth 20000 in
theorem B_X9_writeFront_101 {E : zm_E} {K : zm_K} {Post : zm_Po} {nc ns : Nat} (C : zm_Cx E K cX9_writeFront RX9 5 97 0 0 3) (Rt : zm_Rt E Post 0 0 none) {a0 : Nat} {i1 : Int32} {i2 : Int32} {h : zm_H} (hnc : nc ≤ 0) (hns : ns ≤ 0) (w : zm_gR h a0 9 1 fun v1 => zm_ld K 1 h v1 (i1 + (nI 1)) fun v2 => (v2 ≤ i2 → zm_Go E nc ns 80 [(0, .ref a0), (1, .int (i1 + (nI 1)))] [] h) ∧ (¬ v2 ≤ i2 → zm_gR h a0 9 4 fun v3 => zm_ld K 1 h v3 i2 fun v4 => zm_rc h a0 9 ∧ zm_cv K M_X9_put [.ref a0, .int v4] h fun h1 => zm_Go E nc ns 101 [(0, .ref a0), (1, .int i1), (2, .int (i2 + (nI 1)))] [] h1)) : zm_Go E nc ns 101 [(0, .ref a0), (1, .int i1), (2, .int i2)] [] h := by
  refine zm_iload_n C rfl 2 rfl dX9_writeFront_101 ?_
  refine zm_aload_n C rfl 0 rfl dX9_writeFront_102 ?_
  refine zm_getR C ff_X9_7 dX9_writeFront_103 w (fun v1 w => ?_)
  refine zm_iload_n C rfl 1 rfl dX9_writeFront_106 ?_
  refine zm_iconst (v := nI 1) C (by decide) dX9_writeFront_107 ?_
  refine zm_iadd C dX9_writeFront_108 ?_
  refine zm_ldI C dX9_writeFront_109 w (fun v2 w => ?_)
  refine zm_icmp_ge (tgt := 129) C dX9_writeFront_110 (by decide) (fun z => ?_) (fun z => ?_)
  · replace w := w.1 z
    refine zm_iinc (L' := [(0, .ref a0), (1, .int (i1 + (nI 1))), (2, .int i2)]) C (by decide) 1 [1, 0, 2] dX9_writeFront_129 rfl rfl rfl ?_
    refine zm_goto (tgt := 80) C dX9_writeFront_132 (by decide) ?_
    exact zm_loc [0, 1] rfl w
  · replace w := w.2 z
    refine zm_aload_n C rfl 0 rfl dX9_writeFront_113 ?_
    refine zm_aload_n C rfl 0 rfl dX9_writeFront_114 ?_
    refine zm_getR C ff_X9_19 dX9_writeFront_115 w (fun v3 w => ?_)
    refine zm_iload_n C rfl 2 rfl dX9_writeFront_118 ?_
    refine zm_ldI C dX9_writeFront_119 w (fun v4 w => ?_)
    obtain ⟨wr, w⟩ := w
    refine zm_Vv (As := [.int v4]) (rest := []) C M_X9_put sv_X9_66 rfl dX9_writeFront_120 rfl (Nat.le_of_ble_eq_true rfl) (by decide) (by decide) (by show nc + 0 ≤ 0; omega) (by show ns + 0 ≤ 0; omega) wr w (fun h1 w => ?_)
    refine zm_iinc (L' := [(0, .ref a0), (1, .int i1), (2, .int (i2 + (nI 1)))]) C (by decide) 2 [1, 2, 0] dX9_writeFront_123 rfl rfl rfl ?_
    refine zm_goto (tgt := 101) C dX9_writeFront_126 (by decide) ?_
    exact w
set_option maxRecDepth 20000 in
theorem B_X9_writeDictionary_0 {E : zm_E} {K : zm_K} {Post : zm_Po} {nc ns : Nat} (C : zm_Cx E K cX9_writeDictionary RX9 4 75 0 0 4) (Rt : zm_Rt E Post 0 0 none) {a0 : Nat} {h : zm_H} (w : zm_Go E nc ns 4 [(0, .ref a0), (1, .int (nI 0)), (2, .int (nI 0))] [] h) : zm_Go E nc ns 0 [(0, .ref a0)] [] h := by
  refine zm_iconst (v := nI 0) C (by decide) dX9_writeDictionary_0 ?_
  refine zm_istore_n (L' := [(0, .ref a0), (1, .int (nI 0))]) C rfl (by decide) [1, 0] dX9_writeDictionary_1 rfl ?_
  refine zm_iconst (v := nI 0) C (by decide) dX9_writeDictionary_2 ?_
  refine zm_istore_n (L' := [(0, .ref a0), (1, .int (nI 0)), (2, .int (nI 0))]) C rfl (by decide) [1, 2, 0] dX9_writeDictionary_3 rfl ?_
  exact w
set_option maxRecDepth 20000 in
theorem B_X9_writeDictionary_4 {E : zm_E} {K : zm_K} {Post : zm_Po} {nc ns : Nat} (C : zm_Cx E K cX9_writeDictionary RX9 4 75 0 0 4) (Rt : zm_Rt E Post 0 0 none) {a0 : Nat} {i1 : Int32} {i2 : Int32} {h : zm_H} (hnc : nc ≤ 0) (hns : ns ≤ 0) (w : zm_gI h a0 9 7 fun v1 => (v1 ≤ i2 → zm_rc h a0 9 ∧ zm_cv K M_X9_putVarint [.ref a0, .long i1.toInt64] h fun h1 => zm_Go E nc ns 66 [(0, .ref a0), (1, .int i1), (2, .int (nI 0))] [] h1) ∧ (¬ v1 ≤ i2 → zm_rc h a0 9 ∧ zm_ci K M_X9_firstLike [.ref a0, .int i2] h fun v2 h2 => zm_gR h2 a0 9 20 fun v3 => (¬ v2 = i2 → zm_gR h2 a0 9 20 fun v4 => zm_ld K 1 h2 v4 v2 fun v5 => zm_sI K h2 v3 i2 v5 fun h3 => (¬ v2 = i2 → zm_Go E nc ns 4 [(0, .ref a0), (1, .int (i1 + (nI 0))), (2, .int (i2 + (nI 1)))] [] h3) ∧ (v2 = i2 → zm_Go E nc ns 4 [(0, .ref a0), (1, .int (i1 + (nI 1))), (2, .int (i2 + (nI 1)))] [] h3)) ∧ (v2 = i2 → zm_sI K h2 v3 i2 i1 fun h4 => (¬ v2 = i2 → zm_Go E nc ns 4 [(0, .ref a0), (1, .int (i1 + (nI 0))), (2, .int (i2 + (nI 1)))] [] h4) ∧ (v2 = i2 → zm_Go E nc ns 4 [(0, .ref a0), (1, .int (i1 + (nI 1))), (2, .int (i2 + (nI 1)))] [] h4)))) : zm_Go E nc ns 4 [(0, .ref a0), (1, .int i1), (2, .int i2)] [] h := by
  refine zm_iload_n C rfl 2 rfl dX9_writeDictionary_4 ?_
  refine zm_aload_n C rfl 0 rfl dX9_writeDictionary_5 ?_
  refine zm_getI C ff_X9_135 dX9_writeDictionary_6 w (fun v1 w => ?_)
  refine zm_icmp_ge (tgt := 58) C dX9_writeDictionary_9 (by decide) (fun z => ?_) (fun z => ?_)
  · replace w := w.1 z
    refine zm_aload_n C rfl 0 rfl dX9_writeDictionary_58 ?_
    refine zm_iload_n C rfl 1 rfl dX9_writeDictionary_59 ?_
    refine zm_i2l C dX9_writeDictionary_60 ?_
    obtain ⟨wr, w⟩ := w
    refine zm_Vv (As := [.long i1.toInt64]) (rest := []) C M_X9_putVarint sv_X9_76 rfl dX9_writeDictionary_61 rfl (Nat.le_of_ble_eq_true rfl) (by decide) (by decide) (by show nc + 0 ≤ 0; omega) (by show ns + 0 ≤ 0; omega) wr w (fun h1 w => ?_)
    refine zm_iconst (v := nI 0) C (by decide) dX9_writeDictionary_64 ?_
    refine zm_istore_n (L' := [(0, .ref a0), (1, .int i1), (2, .int (nI 0))]) C rfl (by decide) [1, 2, 0] dX9_writeDictionary_65 rfl ?_
    exact w
  · replace w := w.2 z
    refine zm_aload_n C rfl 0 rfl dX9_writeDictionary_12 ?_
    refine zm_iload_n C rfl 2 rfl dX9_writeDictionary_13 ?_
    obtain ⟨wr, w⟩ := w
    refine zm_Vi (As := [.int i2]) (rest := []) C M_X9_firstLike sv_X9_152 rfl dX9_writeDictionary_14 rfl (Nat.le_of_ble_eq_true rfl) (by decide) (by decide) (by show nc + 0 ≤ 0; omega) (by show ns + 0 ≤ 0; omega) wr w (fun v2 h2 w => ?_)
    refine zm_istore_n (L' := [(0, .ref a0), (1, .int i1), (2, .int i2), (3, .int v2)]) C rfl (by decide) [1, 2, 3, 0] dX9_writeDictionary_17 rfl ?_
    refine zm_aload_n C rfl 0 rfl dX9_writeDictionary_18 ?_
    refine zm_getR C ff_X9_42 dX9_writeDictionary_19 w (fun v3 w => ?_)
    refine zm_iload_n C rfl 2 rfl dX9_writeDictionary_22 ?_
    refine zm_iload_n C rfl 3 rfl dX9_writeDictionary_23 ?_
    refine zm_iload_n C rfl 2 rfl dX9_writeDictionary_24 ?_
    refine zm_icmp_ne (tgt := 32) C dX9_writeDictionary_25 (by decide) (fun z => ?_) (fun z => ?_)
    · replace w := w.1 z
      refine zm_aload_n C rfl 0 rfl dX9_writeDictionary_32 ?_
      refine zm_getR C ff_X9_42 dX9_writeDictionary_33 w (fun v4 w => ?_)
      refine zm_iload_n C rfl 3 rfl dX9_writeDictionary_36 ?_
      refine zm_ldI C dX9_writeDictionary_37 w (fun v5 w => ?_)
      refine zm_stI C dX9_writeDictionary_38 w (fun h3 w => ?_)
      refine zm_iload_n C rfl 1 rfl dX9_writeDictionary_39 ?_
      refine zm_iload_n C rfl 3 rfl dX9_writeDictionary_40 ?_
      refine zm_iload_n C rfl 2 rfl dX9_writeDictionary_41 ?_
      refine zm_icmp_ne (tgt := 49) C dX9_writeDictionary_42 (by decide) (fun z => ?_) (fun z => ?_)
      · replace w := w.1 z
        refine zm_iconst (v := nI 0) C (by decide) dX9_writeDictionary_49 ?_
        refine zm_iadd C dX9_writeDictionary_50 ?_
        refine zm_istore_n (L' := [(0, .ref a0), (1, .int (i1 + (nI 0))), (2, .int i2), (3, .int v2)]) C rfl (by decide) [1, 0, 2, 3] dX9_writeDictionary_51 rfl ?_
        refine zm_iinc (L' := [(0, .ref a0), (1, .int (i1 + (nI 0))), (2, .int (i2 + (nI 1))), (3, .int v2)]) C (by decide) 2 [1, 2, 0, 3] dX9_writeDictionary_52 rfl rfl rfl ?_
        refine zm_goto (tgt := 4) C dX9_writeDictionary_55 (by decide) ?_
        exact zm_loc [0, 1, 2] rfl w
      · replace w := w.2 z
        refine zm_iconst (v := nI 1) C (by decide) dX9_writeDictionary_45 ?_
        refine zm_goto (tgt := 50) C dX9_writeDictionary_46 (by decide) ?_
        refine zm_iadd C dX9_writeDictionary_50 ?_
        refine zm_istore_n (L' := [(0, .ref a0), (1, .int (i1 + (nI 1))), (2, .int i2), (3, .int v2)]) C rfl (by decide) [1, 0, 2, 3] dX9_writeDictionary_51 rfl ?_
        refine zm_iinc (L' := [(0, .ref a0), (1, .int (i1 + (nI 1))), (2, .int (i2 + (nI 1))), (3, .int v2)]) C (by decide) 2 [1, 2, 0, 3] dX9_writeDictionary_52 rfl rfl rfl ?_
        refine zm_goto (tgt := 4) C dX9_writeDictionary_55 (by decide) ?_
        exact zm_loc [0, 1, 2] rfl w
    · replace w := w.2 z
      refine zm_iload_n C rfl 1 rfl dX9_writeDictionary_28 ?_
      refine zm_goto (tgt := 38) C dX9_writeDictionary_29 (by decide) ?_
      refine zm_stI C dX9_writeDictionary_38 w (fun h4 w => ?_)
      refine zm_iload_n C rfl 1 rfl dX9_writeDictionary_39 ?_
      refine zm_iload_n C rfl 3 rfl dX9_writeDictionary_40 ?_
      refine zm_iload_n C rfl 2 rfl dX9_writeDictionary_41 ?_
      refine zm_icmp_ne (tgt := 49) C dX9_writeDictionary_42 (by decide) (fun z => ?_) (fun z => ?_)
      · replace w := w.1 z
        refine zm_iconst (v := nI 0) C (by decide) dX9_writeDictionary_49 ?_
        refine zm_iadd C dX9_writeDictionary_50 ?_
        refine zm_istore_n (L' := [(0, .ref a0), (1, .int (i1 + (nI 0))), (2, .int i2), (3, .int v2)]) C rfl (by decide) [1, 0, 2, 3] dX9_writeDictionary_51 rfl ?_
        refine zm_iinc (L' := [(0, .ref a0), (1, .int (i1 + (nI 0))), (2, .int (i2 + (nI 1))), (3, .int v2)]) C (by decide) 2 [1, 2, 0, 3] dX9_writeDictionary_52 rfl rfl rfl ?_
        refine zm_goto (tgt := 4) C dX9_writeDictionary_55 (by decide) ?_
        exact zm_loc [0, 1, 2] rfl w
      · replace w := w.2 z
        refine zm_iconst (v := nI 1) C (by decide) dX9_writeDictionary_45 ?_
        refine zm_goto (tgt := 50) C dX9_writeDictionary_46 (by decide) ?_
        refine zm_iadd C dX9_writeDictionary_50 ?_
        refine zm_istore_n (L' := [(0, .ref a0), (1, .int (i1 + (nI 1))), (2, .int i2), (3, .int v2)]) C rfl (by decide) [1, 0, 2, 3] dX9_writeDictionary_51 rfl ?_
        refine zm_iinc (L' := [(0, .ref a0), (1, .int (i1 + (nI 1))), (2, .int (i2 + (nI 1))), (3, .int v2)]) C (by decide) 2 [1, 2, 0, 3] dX9_writeDictionary_52 rfl rfl rfl ?_
        refine zm_goto (tgt := 4) C dX9_writeDictionary_55 (by decide) ?_
        exact zm_loc [0, 1, 2] rfl w
set_option maxRecDepth 20000 in
theorem B_X9_writeDictionary_66 {E : zm_E} {K : zm_K} {Post : zm_Po} {nc ns : Nat} (C : zm_Cx E K cX9_writeDictionary RX9 4 75 0 0 4) (Rt : zm_Rt E Post 0 0 none) {a0 : Nat} {i1 : Int32} {i2 : Int32} {h : zm_H} (hnc : nc ≤ 0) (hns : ns ≤ 0) (w : zm_gI h a0 9 7 fun v1 => (v1 ≤ i2 → zm_Go E nc ns 96 [(0, .ref a0), (1, .int i1), (2, .int (nI 0))] [] h) ∧ (¬ v1 ≤ i2 → zm_rc h a0 9 ∧ zm_ci K M_X9_firstLike [.ref a0, .int i2] h fun v2 h1 => (¬ v2 = i2 → zm_Go E nc ns 66 [(0, .ref a0), (1, .int i1), (2, .int (i2 + (nI 1)))] [] h1) ∧ (v2 = i2 → zm_rc h1 a0 9 ∧ zm_cv K M_X9_putText [.ref a0, .int i2] h1 fun h2 => zm_Go E nc ns 66 [(0, .ref a0), (1, .int i1), (2, .int (i2 + (nI 1)))] [] h2))) : zm_Go E nc ns 66 [(0, .ref a0), (1, .int i1), (2, .int i2)] [] h := by
  refine zm_iload_n C rfl 2 rfl dX9_writeDictionary_66 ?_
  refine zm_aload_n C rfl 0 rfl dX9_writeDictionary_67 ?_
  refine zm_getI C ff_X9_135 dX9_writeDictionary_68 w (fun v1 w => ?_)
  refine zm_icmp_ge (tgt := 94) C dX9_writeDictionary_71 (by decide) (fun z => ?_) (fun z => ?_)
  · replace w := w.1 z
    refine zm_iconst (v := nI 0) C (by decide) dX9_writeDictionary_94 ?_
    refine zm_istore_n (L' := [(0, .ref a0), (1, .int i1), (2, .int (nI 0))]) C rfl (by decide) [1, 2, 0] dX9_writeDictionary_95 rfl ?_
    exact w
  · replace w := w.2 z
    refine zm_aload_n C rfl 0 rfl dX9_writeDictionary_74 ?_
    refine zm_iload_n C rfl 2 rfl dX9_writeDictionary_75 ?_
    obtain ⟨wr, w⟩ := w
    refine zm_Vi (As := [.int i2]) (rest := []) C M_X9_firstLike sv_X9_152 rfl dX9_writeDictionary_76 rfl (Nat.le_of_ble_eq_true rfl) (by decide) (by decide) (by show nc + 0 ≤ 0; omega) (by show ns + 0 ≤ 0; omega) wr w (fun v2 h1 w => ?_)
    refine zm_iload_n C rfl 2 rfl dX9_writeDictionary_79 ?_
    refine zm_icmp_ne (tgt := 88) C dX9_writeDictionary_80 (by decide) (fun z => ?_) (fun z => ?_)
    · replace w := w.1 z
      refine zm_iinc (L' := [(0, .ref a0), (1, .int i1), (2, .int (i2 + (nI 1)))]) C (by decide) 2 [1, 2, 0] dX9_writeDictionary_88 rfl rfl rfl ?_
      refine zm_goto (tgt := 66) C dX9_writeDictionary_91 (by decide) ?_
      exact w
    · replace w := w.2 z
      refine zm_aload_n C rfl 0 rfl dX9_writeDictionary_83 ?_
      refine zm_iload_n C rfl 2 rfl dX9_writeDictionary_84 ?_
      obtain ⟨wr, w⟩ := w
      refine zm_Vv (As := [.int i2]) (rest := []) C M_X9_putText sv_X9_155 rfl dX9_writeDictionary_85 rfl (Nat.le_of_ble_eq_true rfl) (by decide) (by decide) (by show nc + 0 ≤ 0; omega) (by show ns + 0 ≤ 0; omega) wr w (fun h2 w => ?_)
      refine zm_iinc (L' := [(0, .ref a0), (1, .int i1), (2, .int (i2 + (nI 1)))]) C (by decide) 2 [1, 2, 0] dX9_writeDictionary_88 rfl rfl rfl ?_
      refine zm_goto (tgt := 66) C dX9_writeDictionary_91 (by decide) ?_
      exact w
set_option maxRecDepth 20000 in
theorem B_X9_writeDictionary_96 {E : zm_E} {K : zm_K} {Post : zm_Po} {nc ns : Nat} (C : zm_Cx E K cX9_writeDictionary RX9 4 75 0 0 4) (Rt : zm_Rt E Post 0 0 none) {a0 : Nat} {i1 : Int32} {i2 : Int32} {h : zm_H} (hnc : nc ≤ 0) (hns : ns ≤ 0) (w : (((i1 - (nI 1)) >>> (i2 &&& 31)) ≤ 0 → zm_rc h a0 9 ∧ zm_cv K M_X9_put [.ref a0, .int i2] h fun h1 => zm_gR h1 a0 9 20 fun v1 => zm_gI h1 a0 9 7 fun v2 => zm_rc h1 a0 9 ∧ zm_cv K M_X9_writeRuns [.ref a0, .ref v1, .int v2, .int i2] h1 fun h2 => Post none h2) ∧ (¬ ((i1 - (nI 1)) >>> (i2 &&& 31)) ≤ 0 → zm_Go E nc ns 96 [(0, .ref a0), (1, .int i1), (2, .int (i2 + (nI 1)))] [] h)) : zm_Go E nc ns 96 [(0, .ref a0), (1, .int i1), (2, .int i2)] [] h := by
  refine zm_iload_n C rfl 1 rfl dX9_writeDictionary_96 ?_
  refine zm_iconst (v := nI 1) C (by decide) dX9_writeDictionary_97 ?_
  refine zm_isub C dX9_writeDictionary_98 ?_
  refine zm_iload_n C rfl 2 rfl dX9_writeDictionary_99 ?_
  refine zm_ishr C dX9_writeDictionary_100 ?_
  refine zm_if_le (tgt := 110) C dX9_writeDictionary_101 (by decide) (fun z => ?_) (fun z => ?_)
  · replace w := w.1 z
    refine zm_aload_n C rfl 0 rfl dX9_writeDictionary_110 ?_
    refine zm_iload_n C rfl 2 rfl dX9_writeDictionary_111 ?_
    obtain ⟨wr, w⟩ := w
    refine zm_Vv (As := [.int i2]) (rest := []) C M_X9_put sv_X9_66 rfl dX9_writeDictionary_112 rfl (Nat.le_of_ble_eq_true rfl) (by decide) (by decide) (by show nc + 0 ≤ 0; omega) (by show ns + 0 ≤ 0; omega) wr w (fun h1 w => ?_)
    refine zm_aload_n C rfl 0 rfl dX9_writeDictionary_115 ?_
    refine zm_aload_n C rfl 0 rfl dX9_writeDictionary_116 ?_
    refine zm_getR C ff_X9_42 dX9_writeDictionary_117 w (fun v1 w => ?_)
    refine zm_aload_n C rfl 0 rfl dX9_writeDictionary_120 ?_
    refine zm_getI C ff_X9_135 dX9_writeDictionary_121 w (fun v2 w => ?_)
    refine zm_iload_n C rfl 2 rfl dX9_writeDictionary_124 ?_
    obtain ⟨wr, w⟩ := w
    refine zm_Vv (As := [.ref v1, .int v2, .int i2]) (rest := []) C M_X9_writeRuns sv_X9_158 rfl dX9_writeDictionary_125 rfl (Nat.le_of_ble_eq_true rfl) (by decide) (by decide) (by show nc + 0 ≤ 0; omega) (by show ns + 0 ≤ 0; omega) wr w (fun h2 w => ?_)
    exact zm_return C Rt (by show nc ≤ 0; omega) (by show ns ≤ 0; omega) dX9_writeDictionary_128 w
  · replace w := w.2 z
    refine zm_iinc (L' := [(0, .ref a0), (1, .int i1), (2, .int (i2 + (nI 1)))]) C (by decide) 2 [1, 2, 0] dX9_writeDictionary_104 rfl rfl rfl ?_
    refine zm_goto (tgt := 96) C dX9_writeDictionary_107 (by decide) ?_
    exact w
set_option maxRecDepth 20000 in
theorem B_X9_write_0 {E : zm_E} {K : zm_K} {Post : zm_Po} {nc ns : Nat} (C : zm_Cx E K cX9_write RX9 6 119 0 0 3) (Rt : zm_Rt E Post 0 0 (some .int)) {a0 : Nat} {i1 : Int32} {h : zm_H} (hnc : nc ≤ 0) (hns : ns ≤ 0) (w : zm_pf h a0 9 0 (.int (nI 0)) fun h1 => zm_pf h1 a0 9 15 (.int (nI 0)) fun h2 => (i1 < 0 → Post (some (.int (-1))) h2) ∧ (¬ i1 < 0 → (i1 ≤ (nI 3) → (¬ i1 = (nI 1) → (¬ i1 = (nI 2) → (¬ i1 = (nI 3) → zm_Go E nc ns 56 [(0, .ref a0), (1, .int i1), (2, .int (nI 0))] [] h2) ∧ (i1 = (nI 3) → zm_rc h2 a0 9 ∧ zm_cv K M_X9_writeDictionary [.ref a0] h2 fun h3 => zm_Go E nc ns 56 [(0, .ref a0), (1, .int i1), (2, .int (nI 0))] [] h3)) ∧ (i1 = (nI 2) → zm_rc h2 a0 9 ∧ zm_cv K M_X9_writeFront [.ref a0] h2 fun h4 => zm_Go E nc ns 56 [(0, .ref a0), (1, .int i1), (2, .int (nI 0))] [] h4)) ∧ (i1 = (nI 1) → zm_rc h2 a0 9 ∧ zm_cv K M_X9_writeLengths [.ref a0] h2 fun h5 => zm_Go E nc ns 56 [(0, .ref a0), (1, .int i1), (2, .int (nI 0))] [] h5)) ∧ (¬ i1 ≤ (nI 3) → Post (some (.int (-1))) h2))) : zm_Go E nc ns 0 [(0, .ref a0), (1, .int i1)] [] h := by
  refine zm_aload_n C rfl 0 rfl dX9_write_0 ?_
  refine zm_iconst (v := nI 0) C (by decide) dX9_write_1 ?_
  refine zm_put C ff_X9_51 ft_X9 fp_X9_9_0 rfl rfl dX9_write_2 w (fun h1 w => ?_)
  refine zm_aload_n C rfl 0 rfl dX9_write_5 ?_
  refine zm_iconst (v := nI 0) C (by decide) dX9_write_6 ?_
  refine zm_put C ff_X9_55 ft_X9 fp_X9_9_15 rfl rfl dX9_write_7 w (fun h2 w => ?_)
  refine zm_iload_n C rfl 1 rfl dX9_write_10 ?_
  refine zm_if_lt (tgt := 19) C dX9_write_11 (by decide) (fun z => ?_) (fun z => ?_)
  · replace w := w.1 z
    refine zm_iconst (v := (-1)) C (by decide) dX9_write_19 ?_
    exact zm_ireturn C Rt (by show nc ≤ 0; omega) (by show ns ≤ 0; omega) rfl dX9_write_20 w
  · replace w := w.2 z
    refine zm_iload_n C rfl 1 rfl dX9_write_14 ?_
    refine zm_iconst (v := nI 3) C (by decide) dX9_write_15 ?_
    refine zm_icmp_le (tgt := 21) C dX9_write_16 (by decide) (fun z => ?_) (fun z => ?_)
    · replace w := w.1 z
      refine zm_iload_n C rfl 1 rfl dX9_write_21 ?_
      refine zm_iconst (v := nI 1) C (by decide) dX9_write_22 ?_
      refine zm_icmp_ne (tgt := 33) C dX9_write_23 (by decide) (fun z => ?_) (fun z => ?_)
      · replace w := w.1 z
        refine zm_iload_n C rfl 1 rfl dX9_write_33 ?_
        refine zm_iconst (v := nI 2) C (by decide) dX9_write_34 ?_
        refine zm_icmp_ne (tgt := 45) C dX9_write_35 (by decide) (fun z => ?_) (fun z => ?_)
        · replace w := w.1 z
          refine zm_iload_n C rfl 1 rfl dX9_write_45 ?_
          refine zm_iconst (v := nI 3) C (by decide) dX9_write_46 ?_
          refine zm_icmp_ne (tgt := 54) C dX9_write_47 (by decide) (fun z => ?_) (fun z => ?_)
          · replace w := w.1 z
            refine zm_iconst (v := nI 0) C (by decide) dX9_write_54 ?_
            refine zm_istore_n (L' := [(0, .ref a0), (1, .int i1), (2, .int (nI 0))]) C rfl (by decide) [1, 2, 0] dX9_write_55 rfl ?_
            exact w
          · replace w := w.2 z
            refine zm_aload_n C rfl 0 rfl dX9_write_50 ?_
            obtain ⟨wr, w⟩ := w
            refine zm_Vv (As := []) (rest := []) C M_X9_writeDictionary sv_X9_168 rfl dX9_write_51 rfl (Nat.le_of_ble_eq_true rfl) (by decide) (by decide) (by show nc + 0 ≤ 0; omega) (by show ns + 0 ≤ 0; omega) wr w (fun h3 w => ?_)
            refine zm_iconst (v := nI 0) C (by decide) dX9_write_54 ?_
            refine zm_istore_n (L' := [(0, .ref a0), (1, .int i1), (2, .int (nI 0))]) C rfl (by decide) [1, 2, 0] dX9_write_55 rfl ?_
            exact w
        · replace w := w.2 z
          refine zm_aload_n C rfl 0 rfl dX9_write_38 ?_
          obtain ⟨wr, w⟩ := w
          refine zm_Vv (As := []) (rest := []) C M_X9_writeFront sv_X9_165 rfl dX9_write_39 rfl (Nat.le_of_ble_eq_true rfl) (by decide) (by decide) (by show nc + 0 ≤ 0; omega) (by show ns + 0 ≤ 0; omega) wr w (fun h4 w => ?_)
          refine zm_goto (tgt := 54) C dX9_write_42 (by decide) ?_
          refine zm_iconst (v := nI 0) C (by decide) dX9_write_54 ?_
          refine zm_istore_n (L' := [(0, .ref a0), (1, .int i1), (2, .int (nI 0))]) C rfl (by decide) [1, 2, 0] dX9_write_55 rfl ?_
          exact w
      · replace w := w.2 z
        refine zm_aload_n C rfl 0 rfl dX9_write_26 ?_
        obtain ⟨wr, w⟩ := w
        refine zm_Vv (As := []) (rest := []) C M_X9_writeLengths sv_X9_162 rfl dX9_write_27 rfl (Nat.le_of_ble_eq_true rfl) (by decide) (by decide) (by show nc + 0 ≤ 0; omega) (by show ns + 0 ≤ 0; omega) wr w (fun h5 w => ?_)
        refine zm_goto (tgt := 54) C dX9_write_30 (by decide) ?_
        refine zm_iconst (v := nI 0) C (by decide) dX9_write_54 ?_
        refine zm_istore_n (L' := [(0, .ref a0), (1, .int i1), (2, .int (nI 0))]) C rfl (by decide) [1, 2, 0] dX9_write_55 rfl ?_
        exact w
    · replace w := w.2 z
      refine zm_iconst (v := (-1)) C (by decide) dX9_write_19 ?_
      exact zm_ireturn C Rt (by show nc ≤ 0; omega) (by show ns ≤ 0; omega) rfl dX9_write_20 w
set_option maxRecDepth 20000 in
theorem B_X9_write_56 {E : zm_E} {K : zm_K} {Post : zm_Po} {nc ns : Nat} (C : zm_Cx E K cX9_write RX9 6 119 0 0 3) (Rt : zm_Rt E Post 0 0 (some .int)) {a0 : Nat} {i1 : Int32} {i2 : Int32} {h : zm_H} (hnc : nc ≤ 0) (hns : ns ≤ 0) (w : zm_gI h a0 9 7 fun v1 => (v1 ≤ i2 → zm_gI h a0 9 15 fun v2 => Post (some (.int v2)) h) ∧ (¬ v1 ≤ i2 → (¬ i1 = 0 → zm_gI h a0 9 15 fun v3 => Post (some (.int v3)) h) ∧ (i1 = 0 → zm_rc h a0 9 ∧ zm_cv K M_X9_putText [.ref a0, .int i2] h fun h1 => zm_Go E nc ns 56 [(0, .ref a0), (1, .int i1), (2, .int (i2 + (nI 1)))] [] h1))) : zm_Go E nc ns 56 [(0, .ref a0), (1, .int i1), (2, .int i2)] [] h := by
  refine zm_iload_n C rfl 2 rfl dX9_write_56 ?_
  refine zm_aload_n C rfl 0 rfl dX9_write_57 ?_
  refine zm_getI C ff_X9_135 dX9_write_58 w (fun v1 w => ?_)
  refine zm_icmp_ge (tgt := 79) C dX9_write_61 (by decide) (fun z => ?_) (fun z => ?_)
  · replace w := w.1 z
    refine zm_aload_n C rfl 0 rfl dX9_write_79 ?_
    refine zm_getI C ff_X9_55 dX9_write_80 w (fun v2 w => ?_)
    exact zm_ireturn C Rt (by show nc ≤ 0; omega) (by show ns ≤ 0; omega) rfl dX9_write_83 w
  · replace w := w.2 z
    refine zm_iload_n C rfl 1 rfl dX9_write_64 ?_
    refine zm_if_ne (tgt := 79) C dX9_write_65 (by decide) (fun z => ?_) (fun z => ?_)
    · replace w := w.1 z
      refine zm_aload_n C rfl 0 rfl dX9_write_79 ?_
      refine zm_getI C ff_X9_55 dX9_write_80 w (fun v3 w => ?_)
      exact zm_ireturn C Rt (by show nc ≤ 0; omega) (by show ns ≤ 0; omega) rfl dX9_write_83 w
    · replace w := w.2 z
      refine zm_aload_n C rfl 0 rfl dX9_write_68 ?_
      refine zm_iload_n C rfl 2 rfl dX9_write_69 ?_
      obtain ⟨wr, w⟩ := w
      refine zm_Vv (As := [.int i2]) (rest := []) C M_X9_putText sv_X9_155 rfl dX9_write_70 rfl (Nat.le_of_ble_eq_true rfl) (by decide) (by decide) (by show nc + 0 ≤ 0; omega) (by show ns + 0 ≤ 0; omega) wr w (fun h1 w => ?_)
      refine zm_iinc (L' := [(0, .ref a0), (1, .int i1), (2, .int (i2 + (nI 1)))]) C (by decide) 2 [1, 2, 0] dX9_write_73 rfl rfl rfl ?_
      refine zm_goto (tgt := 56) C dX9_write_76 (by decide) ?_
      exact w
set_option maxRecDepth 20000 in
theorem B_X9_take_0 {E : zm_E} {K : zm_K} {Post : zm_Po} {nc ns : Nat} (C : zm_Cx E K cX9_take RX9 1 0 0 0 5) (Rt : zm_Rt E Post 0 0 none) {a0 : Nat} {i1 : Int32} {i2 : Int32} {h : zm_H} (hnc : nc ≤ 0) (hns : ns ≤ 0) (w : zm_gI h a0 9 14 fun v1 => zm_gI h a0 9 16 fun v2 => (i1 ≤ (v1 - v2) → zm_gR h a0 9 2 fun v3 => zm_gI h a0 9 8 fun v4 => zm_ld K 1 h v3 v4 fun v5 => (((v5 + i2) + i1) ≤ (nI 20000) → zm_gI h a0 9 17 fun v6 => (v6 = 0 → zm_gR h a0 9 2 fun v7 => zm_gI h a0 9 8 fun v8 => zm_ld K 1 h v7 v8 fun v9 => zm_Go E nc ns 67 [(0, .ref a0), (1, .int i1), (2, .int i2), (3, .int v9), (4, .int (nI 0))] [] h) ∧ (¬ v6 = 0 → Post none h)) ∧ (¬ ((v5 + i2) + i1) ≤ (nI 20000) → zm_pf h a0 9 17 (.int (nI 7)) fun h1 => zm_gI h1 a0 9 17 fun v10 => (v10 = 0 → zm_gR h1 a0 9 2 fun v11 => zm_gI h1 a0 9 8 fun v12 => zm_ld K 1 h1 v11 v12 fun v13 => zm_Go E nc ns 67 [(0, .ref a0), (1, .int i1), (2, .int i2), (3, .int v13), (4, .int (nI 0))] [] h1) ∧ (¬ v10 = 0 → Post none h1))) ∧ (¬ i1 ≤ (v1 - v2) → zm_pf h a0 9 17 (.int (nI 1)) fun h2 => zm_gI h2 a0 9 17 fun v14 => (v14 = 0 → zm_gR h2 a0 9 2 fun v15 => zm_gI h2 a0 9 8 fun v16 => zm_ld K 1 h2 v15 v16 fun v17 => zm_Go E nc ns 67 [(0, .ref a0), (1, .int i1), (2, .int i2), (3, .int v17), (4, .int (nI 0))] [] h2) ∧ (¬ v14 = 0 → Post none h2))) : zm_Go E nc ns 0 [(0, .ref a0), (1, .int i1), (2, .int i2)] [] h := by
  refine zm_aload_n C rfl 0 rfl dX9_take_0 ?_
  refine zm_getI C ff_X9_120 dX9_take_1 w (fun v1 w => ?_)
  refine zm_aload_n C rfl 0 rfl dX9_take_4 ?_
  refine zm_getI C ff_X9_61 dX9_take_5 w (fun v2 w => ?_)
  refine zm_isub C dX9_take_8 ?_
  refine zm_iload_n C rfl 1 rfl dX9_take_9 ?_
  refine zm_icmp_ge (tgt := 21) C dX9_take_10 (by decide) (fun z => ?_) (fun z => ?_)
  · replace w := w.1 z
    refine zm_aload_n C rfl 0 rfl dX9_take_21 ?_
    refine zm_getR C ff_X9_13 dX9_take_22 w (fun v3 w => ?_)
    refine zm_aload_n C rfl 0 rfl dX9_take_25 ?_
    refine zm_getI C ff_X9_171 dX9_take_26 w (fun v4 w => ?_)
    refine zm_ldI C dX9_take_29 w (fun v5 w => ?_)
    refine zm_iload_n C rfl 2 rfl dX9_take_30 ?_
    refine zm_iadd C dX9_take_31 ?_
    refine zm_iload_n C rfl 1 rfl dX9_take_32 ?_
    refine zm_iadd C dX9_take_33 ?_
    refine zm_sipush (v := nI 20000) C (by decide) dX9_take_34 ?_
    refine zm_icmp_le (tgt := 46) C dX9_take_37 (by decide) (fun z => ?_) (fun z => ?_)
    · replace w := w.1 z
      refine zm_aload_n C rfl 0 rfl dX9_take_46 ?_
      refine zm_getI C ff_X9_58 dX9_take_47 w (fun v6 w => ?_)
      refine zm_if_eq (tgt := 54) C dX9_take_50 (by decide) (fun z => ?_) (fun z => ?_)
      · replace w := w.1 z
        refine zm_aload_n C rfl 0 rfl dX9_take_54 ?_
        refine zm_getR C ff_X9_13 dX9_take_55 w (fun v7 w => ?_)
        refine zm_aload_n C rfl 0 rfl dX9_take_58 ?_
        refine zm_getI C ff_X9_171 dX9_take_59 w (fun v8 w => ?_)
        refine zm_ldI C dX9_take_62 w (fun v9 w => ?_)
        refine zm_istore_n (L' := [(0, .ref a0), (1, .int i1), (2, .int i2), (3, .int v9)]) C rfl (by decide) [1, 2, 3, 0] dX9_take_63 rfl ?_
        refine zm_iconst (v := nI 0) C (by decide) dX9_take_64 ?_
        refine zm_istore (L' := [(0, .ref a0), (1, .int i1), (2, .int i2), (3, .int v9), (4, .int (nI 0))]) C (by decide) [1, 2, 3, 4, 0] dX9_take_65 rfl ?_
        exact w
      · replace w := w.2 z
        exact zm_return C Rt (by show nc ≤ 0; omega) (by show ns ≤ 0; omega) dX9_take_53 w
    · replace w := w.2 z
      refine zm_aload_n C rfl 0 rfl dX9_take_40 ?_
      refine zm_bipush (v := nI 7) C (by decide) dX9_take_41 ?_
      refine zm_put C ff_X9_58 ft_X9 fp_X9_9_17 rfl rfl dX9_take_43 w (fun h1 w => ?_)
      refine zm_aload_n C rfl 0 rfl dX9_take_46 ?_
      refine zm_getI C ff_X9_58 dX9_take_47 w (fun v10 w => ?_)
      refine zm_if_eq (tgt := 54) C dX9_take_50 (by decide) (fun z => ?_) (fun z => ?_)
      · replace w := w.1 z
        refine zm_aload_n C rfl 0 rfl dX9_take_54 ?_
        refine zm_getR C ff_X9_13 dX9_take_55 w (fun v11 w => ?_)
        refine zm_aload_n C rfl 0 rfl dX9_take_58 ?_
        refine zm_getI C ff_X9_171 dX9_take_59 w (fun v12 w => ?_)
        refine zm_ldI C dX9_take_62 w (fun v13 w => ?_)
        refine zm_istore_n (L' := [(0, .ref a0), (1, .int i1), (2, .int i2), (3, .int v13)]) C rfl (by decide) [1, 2, 3, 0] dX9_take_63 rfl ?_
        refine zm_iconst (v := nI 0) C (by decide) dX9_take_64 ?_
        refine zm_istore (L' := [(0, .ref a0), (1, .int i1), (2, .int i2), (3, .int v13), (4, .int (nI 0))]) C (by decide) [1, 2, 3, 4, 0] dX9_take_65 rfl ?_
        exact w
      · replace w := w.2 z
        exact zm_return C Rt (by show nc ≤ 0; omega) (by show ns ≤ 0; omega) dX9_take_53 w
  · replace w := w.2 z
    refine zm_aload_n C rfl 0 rfl dX9_take_13 ?_
    refine zm_iconst (v := nI 1) C (by decide) dX9_take_14 ?_
    refine zm_put C ff_X9_58 ft_X9 fp_X9_9_17 rfl rfl dX9_take_15 w (fun h2 w => ?_)
    refine zm_goto (tgt := 46) C dX9_take_18 (by decide) ?_
    refine zm_aload_n C rfl 0 rfl dX9_take_46 ?_
    refine zm_getI C ff_X9_58 dX9_take_47 w (fun v14 w => ?_)
    refine zm_if_eq (tgt := 54) C dX9_take_50 (by decide) (fun z => ?_) (fun z => ?_)
    · replace w := w.1 z
      refine zm_aload_n C rfl 0 rfl dX9_take_54 ?_
      refine zm_getR C ff_X9_13 dX9_take_55 w (fun v15 w => ?_)
      refine zm_aload_n C rfl 0 rfl dX9_take_58 ?_
      refine zm_getI C ff_X9_171 dX9_take_59 w (fun v16 w => ?_)
      refine zm_ldI C dX9_take_62 w (fun v17 w => ?_)
      refine zm_istore_n (L' := [(0, .ref a0), (1, .int i1), (2, .int i2), (3, .int v17)]) C rfl (by decide) [1, 2, 3, 0] dX9_take_63 rfl ?_
      refine zm_iconst (v := nI 0) C (by decide) dX9_take_64 ?_
      refine zm_istore (L' := [(0, .ref a0), (1, .int i1), (2, .int i2), (3, .int v17), (4, .int (nI 0))]) C (by decide) [1, 2, 3, 4, 0] dX9_take_65 rfl ?_
      exact w
    · replace w := w.2 z
      exact zm_return C Rt (by show nc ≤ 0; omega) (by show ns ≤ 0; omega) dX9_take_53 w
set_option maxRecDepth 20000 in
theorem B_X9_take_67 {E : zm_E} {K : zm_K} {Post : zm_Po} {nc ns : Nat} (C : zm_Cx E K cX9_take RX9 1 0 0 0 5) (Rt : zm_Rt E Post 0 0 none) {a0 : Nat} {i1 : Int32} {i2 : Int32} {i3 : Int32} {i4 : Int32} {h : zm_H} (w : (i2 ≤ i4 → zm_Go E nc ns 110 [(0, .ref a0), (1, .int i1), (2, .int i2), (3, .int i3), (4, .int (nI 0))] [] h) ∧ (¬ i2 ≤ i4 → zm_gR h a0 9 5 fun v1 => zm_gR h a0 9 5 fun v2 => zm_gR h a0 9 2 fun v3 => zm_gI h a0 9 8 fun v4 => zm_ld K 1 h v3 (v4 - (nI 1)) fun v5 => zm_ld K 1 h v2 (v5 + i4) fun v6 => zm_sI K h v1 (i3 + i4) v6 fun h1 => zm_Go E nc ns 67 [(0, .ref a0), (1, .int i1), (2, .int i2), (3, .int i3), (4, .int (i4 + (nI 1)))] [] h1)) : zm_Go E nc ns 67 [(0, .ref a0), (1, .int i1), (2, .int i2), (3, .int i3), (4, .int i4)] [] h := by
  refine zm_iload C 4 rfl dX9_take_67 ?_
  refine zm_iload_n C rfl 2 rfl dX9_take_69 ?_
  refine zm_icmp_ge (tgt := 107) C dX9_take_70 (by decide) (fun z => ?_) (fun z => ?_)
  · replace w := w.1 z
    refine zm_iconst (v := nI 0) C (by decide) dX9_take_107 ?_
    refine zm_istore (L' := [(0, .ref a0), (1, .int i1), (2, .int i2), (3, .int i3), (4, .int (nI 0))]) C (by decide) [1, 2, 3, 4, 0] dX9_take_108 rfl ?_
    exact w
  · replace w := w.2 z
    refine zm_aload_n C rfl 0 rfl dX9_take_73 ?_
    refine zm_getR C ff_X9_22 dX9_take_74 w (fun v1 w => ?_)
    refine zm_iload_n C rfl 3 rfl dX9_take_77 ?_
    refine zm_iload C 4 rfl dX9_take_78 ?_
    refine zm_iadd C dX9_take_80 ?_
    refine zm_aload_n C rfl 0 rfl dX9_take_81 ?_
    refine zm_getR C ff_X9_22 dX9_take_82 w (fun v2 w => ?_)
    refine zm_aload_n C rfl 0 rfl dX9_take_85 ?_
    refine zm_getR C ff_X9_13 dX9_take_86 w (fun v3 w => ?_)
    refine zm_aload_n C rfl 0 rfl dX9_take_89 ?_
    refine zm_getI C ff_X9_171 dX9_take_90 w (fun v4 w => ?_)
    refine zm_iconst (v := nI 1) C (by decide) dX9_take_93 ?_
    refine zm_isub C dX9_take_94 ?_
    refine zm_ldI C dX9_take_95 w (fun v5 w => ?_)
    refine zm_iload C 4 rfl dX9_take_96 ?_
    refine zm_iadd C dX9_take_98 ?_
    refine zm_ldI C dX9_take_99 w (fun v6 w => ?_)
    refine zm_stI C dX9_take_100 w (fun h1 w => ?_)
    refine zm_iinc (L' := [(0, .ref a0), (1, .int i1), (2, .int i2), (3, .int i3), (4, .int (i4 + (nI 1)))]) C (by decide) 4 [1, 2, 3, 4, 0] dX9_take_101 rfl rfl rfl ?_
    refine zm_goto (tgt := 67) C dX9_take_104 (by decide) ?_
    exact w
set_option maxRecDepth 20000 in
theorem B_X9_take_110 {E : zm_E} {K : zm_K} {Post : zm_Po} {nc ns : Nat} (C : zm_Cx E K cX9_take RX9 1 0 0 0 5) (Rt : zm_Rt E Post 0 0 none) {a0 : Nat} {i1 : Int32} {i2 : Int32} {i3 : Int32} {i4 : Int32} {h : zm_H} (hnc : nc ≤ 0) (hns : ns ≤ 0) (w : (i1 ≤ i4 → zm_gI h a0 9 16 fun v1 => zm_pf h a0 9 16 (.int (v1 + i1)) fun h1 => zm_gI h1 a0 9 8 fun v2 => zm_pf h1 a0 9 8 (.int (v2 + (nI 1))) fun h2 => zm_gR h2 a0 9 2 fun v3 => zm_gI h2 a0 9 8 fun v4 => zm_sI K h2 v3 v4 ((i3 + i2) + i1) fun h3 => Post none h3) ∧ (¬ i1 ≤ i4 → zm_gR h a0 9 5 fun v5 => zm_gR h a0 9 11 fun v6 => zm_gI h a0 9 16 fun v7 => zm_ld K 1 h v6 (v7 + i4) fun v8 => zm_sI K h v5 ((i3 + i2) + i4) v8 fun h4 => zm_Go E nc ns 110 [(0, .ref a0), (1, .int i1), (2, .int i2), (3, .int i3), (4, .int (i4 + (nI 1)))] [] h4)) : zm_Go E nc ns 110 [(0, .ref a0), (1, .int i1), (2, .int i2), (3, .int i3), (4, .int i4)] [] h := by
  refine zm_iload C 4 rfl dX9_take_110 ?_
  refine zm_iload_n C rfl 1 rfl dX9_take_112 ?_
  refine zm_icmp_ge (tgt := 145) C dX9_take_113 (by decide) (fun z => ?_) (fun z => ?_)
  · replace w := w.1 z
    refine zm_aload_n C rfl 0 rfl dX9_take_145 ?_
    refine zm_dup C rfl dX9_take_146 ?_
    refine zm_getI C ff_X9_61 dX9_take_147 w (fun v1 w => ?_)
    refine zm_iload_n C rfl 1 rfl dX9_take_150 ?_
    refine zm_iadd C dX9_take_151 ?_
    refine zm_put C ff_X9_61 ft_X9 fp_X9_9_16 rfl rfl dX9_take_152 w (fun h1 w => ?_)
    refine zm_aload_n C rfl 0 rfl dX9_take_155 ?_
    refine zm_dup C rfl dX9_take_156 ?_
    refine zm_getI C ff_X9_171 dX9_take_157 w (fun v2 w => ?_)
    refine zm_iconst (v := nI 1) C (by decide) dX9_take_160 ?_
    refine zm_iadd C dX9_take_161 ?_
    refine zm_put C ff_X9_171 ft_X9 fp_X9_9_8 rfl rfl dX9_take_162 w (fun h2 w => ?_)
    refine zm_aload_n C rfl 0 rfl dX9_take_165 ?_
    refine zm_getR C ff_X9_13 dX9_take_166 w (fun v3 w => ?_)
    refine zm_aload_n C rfl 0 rfl dX9_take_169 ?_
    refine zm_getI C ff_X9_171 dX9_take_170 w (fun v4 w => ?_)
    refine zm_iload_n C rfl 3 rfl dX9_take_173 ?_
    refine zm_iload_n C rfl 2 rfl dX9_take_174 ?_
    refine zm_iadd C dX9_take_175 ?_
    refine zm_iload_n C rfl 1 rfl dX9_take_176 ?_
    refine zm_iadd C dX9_take_177 ?_
    refine zm_stI C dX9_take_178 w (fun h3 w => ?_)
    exact zm_return C Rt (by show nc ≤ 0; omega) (by show ns ≤ 0; omega) dX9_take_179 w
  · replace w := w.2 z
    refine zm_aload_n C rfl 0 rfl dX9_take_116 ?_
    refine zm_getR C ff_X9_22 dX9_take_117 w (fun v5 w => ?_)
    refine zm_iload_n C rfl 3 rfl dX9_take_120 ?_
    refine zm_iload_n C rfl 2 rfl dX9_take_121 ?_
    refine zm_iadd C dX9_take_122 ?_
    refine zm_iload C 4 rfl dX9_take_123 ?_
    refine zm_iadd C dX9_take_125 ?_
    refine zm_aload_n C rfl 0 rfl dX9_take_126 ?_
    refine zm_getR C ff_X9_31 dX9_take_127 w (fun v6 w => ?_)
    refine zm_aload_n C rfl 0 rfl dX9_take_130 ?_
    refine zm_getI C ff_X9_61 dX9_take_131 w (fun v7 w => ?_)
    refine zm_iload C 4 rfl dX9_take_134 ?_
    refine zm_iadd C dX9_take_136 ?_
    refine zm_ldI C dX9_take_137 w (fun v8 w => ?_)
    refine zm_stI C dX9_take_138 w (fun h4 w => ?_)
    refine zm_iinc (L' := [(0, .ref a0), (1, .int i1), (2, .int i2), (3, .int i3), (4, .int (i4 + (nI 1)))]) C (by decide) 4 [1, 2, 3, 4, 0] dX9_take_139 rfl rfl rfl ?_
    refine zm_goto (tgt := 110) C dX9_take_142 (by decide) ?_
    exact w
set_option maxRecDepth 20000 in
theorem B_X9_readPlain_0 {E : zm_E} {K : zm_K} {Post : zm_Po} {nc ns : Nat} (C : zm_Cx E K cX9_readPlain RX9 2 25 0 0 5) (Rt : zm_Rt E Post 0 0 none) {a0 : Nat} {i1 : Int32} {h : zm_H} (w : zm_Go E nc ns 2 [(0, .ref a0), (1, .int i1), (2, .int (nI 0))] [] h) : zm_Go E nc ns 0 [(0, .ref a0), (1, .int i1)] [] h := by
  refine zm_iconst (v := nI 0) C (by decide) dX9_readPlain_0 ?_
  refine zm_istore_n (L' := [(0, .ref a0), (1, .int i1), (2, .int (nI 0))]) C rfl (by decide) [1, 2, 0] dX9_readPlain_1 rfl ?_
  exact w
set_option maxRecDepth 20000 in
theorem B_X9_readPlain_2 {E : zm_E} {K : zm_K} {Post : zm_Po} {nc ns : Nat} (C : zm_Cx E K cX9_readPlain RX9 2 25 0 0 5) (Rt : zm_Rt E Post 0 0 none) {a0 : Nat} {i1 : Int32} {i2 : Int32} {h : zm_H} (hnc : nc ≤ 0) (hns : ns ≤ 0) (w : (i1 ≤ i2 → Post none h) ∧ (¬ i1 ≤ i2 → zm_gI h a0 9 17 fun v1 => (¬ v1 = 0 → Post none h) ∧ (v1 = 0 → zm_gI h a0 9 14 fun v2 => zm_rc h a0 9 ∧ zm_cl K M_X9_varint [.ref a0, .int v2] h fun v3 h1 => zm_gI h1 a0 9 17 fun v4 => (¬ v4 = 0 → zm_gI h1 a0 9 17 fun v5 => (¬ v5 = 0 → zm_Go E nc ns 2 [(0, .ref a0), (1, .int i1), (2, .int (i2 + (nI 1)))] [] h1) ∧ (v5 = 0 → zm_rc h1 a0 9 ∧ zm_cv K M_X9_take [.ref a0, .int v3.toInt32, .int (nI 0)] h1 fun h2 => zm_Go E nc ns 2 [(0, .ref a0), (1, .int i1), (2, .int (i2 + (nI 1)))] [] h2)) ∧ (v4 = 0 → ((lg_cmp v3 (lN 0)) < 0 → zm_pf h1 a0 9 17 (.int (nI 7)) fun h3 => zm_gI h3 a0 9 17 fun v6 => (¬ v6 = 0 → zm_Go E nc ns 2 [(0, .ref a0), (1, .int i1), (2, .int (i2 + (nI 1)))] [] h3) ∧ (v6 = 0 → zm_rc h3 a0 9 ∧ zm_cv K M_X9_take [.ref a0, .int v3.toInt32, .int (nI 0)] h3 fun h4 => zm_Go E nc ns 2 [(0, .ref a0), (1, .int i1), (2, .int (i2 + (nI 1)))] [] h4)) ∧ (¬ (lg_cmp v3 (lN 0)) < 0 → ((lg_cmp v3 (lN 255)) ≤ 0 → zm_gI h1 a0 9 17 fun v7 => (¬ v7 = 0 → zm_Go E nc ns 2 [(0, .ref a0), (1, .int i1), (2, .int (i2 + (nI 1)))] [] h1) ∧ (v7 = 0 → zm_rc h1 a0 9 ∧ zm_cv K M_X9_take [.ref a0, .int v3.toInt32, .int (nI 0)] h1 fun h5 => zm_Go E nc ns 2 [(0, .ref a0), (1, .int i1), (2, .int (i2 + (nI 1)))] [] h5)) ∧ (¬ (lg_cmp v3 (lN 255)) ≤ 0 → zm_pf h1 a0 9 17 (.int (nI 7)) fun h6 => zm_gI h6 a0 9 17 fun v8 => (¬ v8 = 0 → zm_Go E nc ns 2 [(0, .ref a0), (1, .int i1), (2, .int (i2 + (nI 1)))] [] h6) ∧ (v8 = 0 → zm_rc h6 a0 9 ∧ zm_cv K M_X9_take [.ref a0, .int v3.toInt32, .int (nI 0)] h6 fun h7 => zm_Go E nc ns 2 [(0, .ref a0), (1, .int i1), (2, .int (i2 + (nI 1)))] [] h7))))))) : zm_Go E nc ns 2 [(0, .ref a0), (1, .int i1), (2, .int i2)] [] h := by
  refine zm_iload_n C rfl 2 rfl dX9_readPlain_2 ?_
  refine zm_iload_n C rfl 1 rfl dX9_readPlain_3 ?_
  refine zm_icmp_ge (tgt := 70) C dX9_readPlain_4 (by decide) (fun z => ?_) (fun z => ?_)
  · replace w := w.1 z
    exact zm_return C Rt (by show nc ≤ 0; omega) (by show ns ≤ 0; omega) dX9_readPlain_70 w
  · replace w := w.2 z
    refine zm_aload_n C rfl 0 rfl dX9_readPlain_7 ?_
    refine zm_getI C ff_X9_58 dX9_readPlain_8 w (fun v1 w => ?_)
    refine zm_if_ne (tgt := 70) C dX9_readPlain_11 (by decide) (fun z => ?_) (fun z => ?_)
    · replace w := w.1 z
      exact zm_return C Rt (by show nc ≤ 0; omega) (by show ns ≤ 0; omega) dX9_readPlain_70 w
    · replace w := w.2 z
      refine zm_aload_n C rfl 0 rfl dX9_readPlain_14 ?_
      refine zm_aload_n C rfl 0 rfl dX9_readPlain_15 ?_
      refine zm_getI C ff_X9_120 dX9_readPlain_16 w (fun v2 w => ?_)
      obtain ⟨wr, w⟩ := w
      refine zm_Vl (As := [.int v2]) (rest := []) C M_X9_varint sv_X9_80 rfl dX9_readPlain_19 rfl (Nat.le_of_ble_eq_true rfl) (by decide) (by decide) (by show nc + 0 ≤ 0; omega) (by show ns + 0 ≤ 0; omega) wr w (fun v3 h1 w => ?_)
      refine zm_lstore_n (L' := [(0, .ref a0), (1, .int i1), (2, .int i2), (3, .long v3)]) C rfl (by decide) [1, 2, 3, 0] dX9_readPlain_22 rfl ?_
      refine zm_aload_n C rfl 0 rfl dX9_readPlain_23 ?_
      refine zm_getI C ff_X9_58 dX9_readPlain_24 w (fun v4 w => ?_)
      refine zm_if_ne (tgt := 50) C dX9_readPlain_27 (by decide) (fun z => ?_) (fun z => ?_)
      · replace w := w.1 z
        refine zm_aload_n C rfl 0 rfl dX9_readPlain_50 ?_
        refine zm_getI C ff_X9_58 dX9_readPlain_51 w (fun v5 w => ?_)
        refine zm_if_ne (tgt := 64) C dX9_readPlain_54 (by decide) (fun z => ?_) (fun z => ?_)
        · replace w := w.1 z
          refine zm_iinc (L' := [(0, .ref a0), (1, .int i1), (2, .int (i2 + (nI 1))), (3, .long v3)]) C (by decide) 2 [1, 2, 0, 3] dX9_readPlain_64 rfl rfl rfl ?_
          refine zm_goto (tgt := 2) C dX9_readPlain_67 (by decide) ?_
          exact zm_loc [0, 1, 2] rfl w
        · replace w := w.2 z
          refine zm_aload_n C rfl 0 rfl dX9_readPlain_57 ?_
          refine zm_lload_n C rfl 3 rfl dX9_readPlain_58 ?_
          refine zm_l2i C dX9_readPlain_59 ?_
          refine zm_iconst (v := nI 0) C (by decide) dX9_readPlain_60 ?_
          obtain ⟨wr, w⟩ := w
          refine zm_Vv (As := [.int v3.toInt32, .int (nI 0)]) (rest := []) C M_X9_take sv_X9_176 rfl dX9_readPlain_61 rfl (Nat.le_of_ble_eq_true rfl) (by decide) (by decide) (by show nc + 0 ≤ 0; omega) (by show ns + 0 ≤ 0; omega) wr w (fun h2 w => ?_)
          refine zm_iinc (L' := [(0, .ref a0), (1, .int i1), (2, .int (i2 + (nI 1))), (3, .long v3)]) C (by decide) 2 [1, 2, 0, 3] dX9_readPlain_64 rfl rfl rfl ?_
          refine zm_goto (tgt := 2) C dX9_readPlain_67 (by decide) ?_
          exact zm_loc [0, 1, 2] rfl w
      · replace w := w.2 z
        refine zm_lload_n C rfl 3 rfl dX9_readPlain_30 ?_
        refine zm_lconst (v := lN 0) C (by decide) dX9_readPlain_31 ?_
        refine zm_lcmp C dX9_readPlain_32 ?_
        refine zm_if_lt (tgt := 44) C dX9_readPlain_33 (by decide) (fun z => ?_) (fun z => ?_)
        · replace w := w.1 z
          refine zm_aload_n C rfl 0 rfl dX9_readPlain_44 ?_
          refine zm_bipush (v := nI 7) C (by decide) dX9_readPlain_45 ?_
          refine zm_put C ff_X9_58 ft_X9 fp_X9_9_17 rfl rfl dX9_readPlain_47 w (fun h3 w => ?_)
          refine zm_aload_n C rfl 0 rfl dX9_readPlain_50 ?_
          refine zm_getI C ff_X9_58 dX9_readPlain_51 w (fun v6 w => ?_)
          refine zm_if_ne (tgt := 64) C dX9_readPlain_54 (by decide) (fun z => ?_) (fun z => ?_)
          · replace w := w.1 z
            refine zm_iinc (L' := [(0, .ref a0), (1, .int i1), (2, .int (i2 + (nI 1))), (3, .long v3)]) C (by decide) 2 [1, 2, 0, 3] dX9_readPlain_64 rfl rfl rfl ?_
            refine zm_goto (tgt := 2) C dX9_readPlain_67 (by decide) ?_
            exact zm_loc [0, 1, 2] rfl w
          · replace w := w.2 z
            refine zm_aload_n C rfl 0 rfl dX9_readPlain_57 ?_
            refine zm_lload_n C rfl 3 rfl dX9_readPlain_58 ?_
            refine zm_l2i C dX9_readPlain_59 ?_
            refine zm_iconst (v := nI 0) C (by decide) dX9_readPlain_60 ?_
            obtain ⟨wr, w⟩ := w
            refine zm_Vv (As := [.int v3.toInt32, .int (nI 0)]) (rest := []) C M_X9_take sv_X9_176 rfl dX9_readPlain_61 rfl (Nat.le_of_ble_eq_true rfl) (by decide) (by decide) (by show nc + 0 ≤ 0; omega) (by show ns + 0 ≤ 0; omega) wr w (fun h4 w => ?_)
            refine zm_iinc (L' := [(0, .ref a0), (1, .int i1), (2, .int (i2 + (nI 1))), (3, .long v3)]) C (by decide) 2 [1, 2, 0, 3] dX9_readPlain_64 rfl rfl rfl ?_
            refine zm_goto (tgt := 2) C dX9_readPlain_67 (by decide) ?_
            exact zm_loc [0, 1, 2] rfl w
        · replace w := w.2 z
          refine zm_lload_n C rfl 3 rfl dX9_readPlain_36 ?_
          refine zm_ldc2 (v := lN 255) C (zm_inG (by decide +kernel) rfl) dX9_readPlain_37 ?_
          refine zm_lcmp C dX9_readPlain_40 ?_
          refine zm_if_le (tgt := 50) C dX9_readPlain_41 (by decide) (fun z => ?_) (fun z => ?_)
          · replace w := w.1 z
            refine zm_aload_n C rfl 0 rfl dX9_readPlain_50 ?_
            refine zm_getI C ff_X9_58 dX9_readPlain_51 w (fun v7 w => ?_)
            refine zm_if_ne (tgt := 64) C dX9_readPlain_54 (by decide) (fun z => ?_) (fun z => ?_)
            · replace w := w.1 z
              refine zm_iinc (L' := [(0, .ref a0), (1, .int i1), (2, .int (i2 + (nI 1))), (3, .long v3)]) C (by decide) 2 [1, 2, 0, 3] dX9_readPlain_64 rfl rfl rfl ?_
              refine zm_goto (tgt := 2) C dX9_readPlain_67 (by decide) ?_
              exact zm_loc [0, 1, 2] rfl w
            · replace w := w.2 z
              refine zm_aload_n C rfl 0 rfl dX9_readPlain_57 ?_
              refine zm_lload_n C rfl 3 rfl dX9_readPlain_58 ?_
              refine zm_l2i C dX9_readPlain_59 ?_
              refine zm_iconst (v := nI 0) C (by decide) dX9_readPlain_60 ?_
              obtain ⟨wr, w⟩ := w
              refine zm_Vv (As := [.int v3.toInt32, .int (nI 0)]) (rest := []) C M_X9_take sv_X9_176 rfl dX9_readPlain_61 rfl (Nat.le_of_ble_eq_true rfl) (by decide) (by decide) (by show nc + 0 ≤ 0; omega) (by show ns + 0 ≤ 0; omega) wr w (fun h5 w => ?_)
              refine zm_iinc (L' := [(0, .ref a0), (1, .int i1), (2, .int (i2 + (nI 1))), (3, .long v3)]) C (by decide) 2 [1, 2, 0, 3] dX9_readPlain_64 rfl rfl rfl ?_
              refine zm_goto (tgt := 2) C dX9_readPlain_67 (by decide) ?_
              exact zm_loc [0, 1, 2] rfl w
          · replace w := w.2 z
            refine zm_aload_n C rfl 0 rfl dX9_readPlain_44 ?_
            refine zm_bipush (v := nI 7) C (by decide) dX9_readPlain_45 ?_
            refine zm_put C ff_X9_58 ft_X9 fp_X9_9_17 rfl rfl dX9_readPlain_47 w (fun h6 w => ?_)
            refine zm_aload_n C rfl 0 rfl dX9_readPlain_50 ?_
            refine zm_getI C ff_X9_58 dX9_readPlain_51 w (fun v8 w => ?_)
            refine zm_if_ne (tgt := 64) C dX9_readPlain_54 (by decide) (fun z => ?_) (fun z => ?_)
            · replace w := w.1 z
              refine zm_iinc (L' := [(0, .ref a0), (1, .int i1), (2, .int (i2 + (nI 1))), (3, .long v3)]) C (by decide) 2 [1, 2, 0, 3] dX9_readPlain_64 rfl rfl rfl ?_
              refine zm_goto (tgt := 2) C dX9_readPlain_67 (by decide) ?_
              exact zm_loc [0, 1, 2] rfl w
            · replace w := w.2 z
              refine zm_aload_n C rfl 0 rfl dX9_readPlain_57 ?_
              refine zm_lload_n C rfl 3 rfl dX9_readPlain_58 ?_
              refine zm_l2i C dX9_readPlain_59 ?_
              refine zm_iconst (v := nI 0) C (by decide) dX9_readPlain_60 ?_
              obtain ⟨wr, w⟩ := w
              refine zm_Vv (As := [.int v3.toInt32, .int (nI 0)]) (rest := []) C M_X9_take sv_X9_176 rfl dX9_readPlain_61 rfl (Nat.le_of_ble_eq_true rfl) (by decide) (by decide) (by show nc + 0 ≤ 0; omega) (by show ns + 0 ≤ 0; omega) wr w (fun h7 w => ?_)
              refine zm_iinc (L' := [(0, .ref a0), (1, .int i1), (2, .int (i2 + (nI 1))), (3, .long v3)]) C (by decide) 2 [1, 2, 0, 3] dX9_readPlain_64 rfl rfl rfl ?_
              refine zm_goto (tgt := 2) C dX9_readPlain_67 (by decide) ?_
              exact zm_loc [0, 1, 2] rfl w
set_option maxRecDepth 20000 in
theorem B_X9_readLengths_0 {E : zm_E} {K : zm_K} {Post : zm_Po} {nc ns : Nat} (C : zm_Cx E K cX9_readLengths RX9 4 84 0 0 3) (Rt : zm_Rt E Post 0 0 none) {a0 : Nat} {i1 : Int32} {h : zm_H} (hnc : nc ≤ 0) (hns : ns ≤ 0) (w : zm_rc h a0 9 ∧ zm_cv K M_X9_readCode [.ref a0, .int i1] h fun h1 => zm_Go E nc ns 7 [(0, .ref a0), (1, .int i1), (2, .int (nI 0))] [] h1) : zm_Go E nc ns 0 [(0, .ref a0), (1, .int i1)] [] h := by
  refine zm_aload_n C rfl 0 rfl dX9_readLengths_0 ?_
  refine zm_iload_n C rfl 1 rfl dX9_readLengths_1 ?_
  obtain ⟨wr, w⟩ := w
  refine zm_Vv (As := [.int i1]) (rest := []) C M_X9_readCode sv_X9_180 rfl dX9_readLengths_2 rfl (Nat.le_of_ble_eq_true rfl) (by decide) (by decide) (by show nc + 0 ≤ 0; omega) (by show ns + 0 ≤ 0; omega) wr w (fun h1 w => ?_)
  refine zm_iconst (v := nI 0) C (by decide) dX9_readLengths_5 ?_
  refine zm_istore_n (L' := [(0, .ref a0), (1, .int i1), (2, .int (nI 0))]) C rfl (by decide) [1, 2, 0] dX9_readLengths_6 rfl ?_
  exact w
set_option maxRecDepth 20000 in
theorem B_X9_readLengths_7 {E : zm_E} {K : zm_K} {Post : zm_Po} {nc ns : Nat} (C : zm_Cx E K cX9_readLengths RX9 4 84 0 0 3) (Rt : zm_Rt E Post 0 0 none) {a0 : Nat} {i1 : Int32} {i2 : Int32} {h : zm_H} (w : (i1 ≤ i2 → zm_Go E nc ns 57 [(0, .ref a0), (1, .int i1), (2, .int (nI 0))] [] h) ∧ (¬ i1 ≤ i2 → zm_gI h a0 9 17 fun v1 => (¬ v1 = 0 → zm_Go E nc ns 57 [(0, .ref a0), (1, .int i1), (2, .int (nI 0))] [] h) ∧ (v1 = 0 → zm_gR h a0 9 18 fun v2 => zm_lL K h v2 i2 fun v3 => ((lg_cmp v3 (lN 0)) < 0 → zm_pf h a0 9 17 (.int (nI 7)) fun h1 => zm_Go E nc ns 7 [(0, .ref a0), (1, .int i1), (2, .int (i2 + (nI 1)))] [] h1) ∧ (¬ (lg_cmp v3 (lN 0)) < 0 → zm_gR h a0 9 18 fun v4 => zm_lL K h v4 i2 fun v5 => ((lg_cmp v5 (lN 255)) ≤ 0 → zm_Go E nc ns 7 [(0, .ref a0), (1, .int i1), (2, .int (i2 + (nI 1)))] [] h) ∧ (¬ (lg_cmp v5 (lN 255)) ≤ 0 → zm_pf h a0 9 17 (.int (nI 7)) fun h2 => zm_Go E nc ns 7 [(0, .ref a0), (1, .int i1), (2, .int (i2 + (nI 1)))] [] h2))))) : zm_Go E nc ns 7 [(0, .ref a0), (1, .int i1), (2, .int i2)] [] h := by
  refine zm_iload_n C rfl 2 rfl dX9_readLengths_7 ?_
  refine zm_iload_n C rfl 1 rfl dX9_readLengths_8 ?_
  refine zm_icmp_ge (tgt := 55) C dX9_readLengths_9 (by decide) (fun z => ?_) (fun z => ?_)
  · replace w := w.1 z
    refine zm_iconst (v := nI 0) C (by decide) dX9_readLengths_55 ?_
    refine zm_istore_n (L' := [(0, .ref a0), (1, .int i1), (2, .int (nI 0))]) C rfl (by decide) [1, 2, 0] dX9_readLengths_56 rfl ?_
    exact w
  · replace w := w.2 z
    refine zm_aload_n C rfl 0 rfl dX9_readLengths_12 ?_
    refine zm_getI C ff_X9_58 dX9_readLengths_13 w (fun v1 w => ?_)
    refine zm_if_ne (tgt := 55) C dX9_readLengths_16 (by decide) (fun z => ?_) (fun z => ?_)
    · replace w := w.1 z
      refine zm_iconst (v := nI 0) C (by decide) dX9_readLengths_55 ?_
      refine zm_istore_n (L' := [(0, .ref a0), (1, .int i1), (2, .int (nI 0))]) C rfl (by decide) [1, 2, 0] dX9_readLengths_56 rfl ?_
      exact w
    · replace w := w.2 z
      refine zm_aload_n C rfl 0 rfl dX9_readLengths_19 ?_
      refine zm_getR C ff_X9_38 dX9_readLengths_20 w (fun v2 w => ?_)
      refine zm_iload_n C rfl 2 rfl dX9_readLengths_23 ?_
      refine zm_ldL C dX9_readLengths_24 w (fun v3 w => ?_)
      refine zm_lconst (v := lN 0) C (by decide) dX9_readLengths_25 ?_
      refine zm_lcmp C dX9_readLengths_26 ?_
      refine zm_if_lt (tgt := 43) C dX9_readLengths_27 (by decide) (fun z => ?_) (fun z => ?_)
      · replace w := w.1 z
        refine zm_aload_n C rfl 0 rfl dX9_readLengths_43 ?_
        refine zm_bipush (v := nI 7) C (by decide) dX9_readLengths_44 ?_
        refine zm_put C ff_X9_58 ft_X9 fp_X9_9_17 rfl rfl dX9_readLengths_46 w (fun h1 w => ?_)
        refine zm_iinc (L' := [(0, .ref a0), (1, .int i1), (2, .int (i2 + (nI 1)))]) C (by decide) 2 [1, 2, 0] dX9_readLengths_49 rfl rfl rfl ?_
        refine zm_goto (tgt := 7) C dX9_readLengths_52 (by decide) ?_
        exact w
      · replace w := w.2 z
        refine zm_aload_n C rfl 0 rfl dX9_readLengths_30 ?_
        refine zm_getR C ff_X9_38 dX9_readLengths_31 w (fun v4 w => ?_)
        refine zm_iload_n C rfl 2 rfl dX9_readLengths_34 ?_
        refine zm_ldL C dX9_readLengths_35 w (fun v5 w => ?_)
        refine zm_ldc2 (v := lN 255) C (zm_inG (by decide +kernel) rfl) dX9_readLengths_36 ?_
        refine zm_lcmp C dX9_readLengths_39 ?_
        refine zm_if_le (tgt := 49) C dX9_readLengths_40 (by decide) (fun z => ?_) (fun z => ?_)
        · replace w := w.1 z
          refine zm_iinc (L' := [(0, .ref a0), (1, .int i1), (2, .int (i2 + (nI 1)))]) C (by decide) 2 [1, 2, 0] dX9_readLengths_49 rfl rfl rfl ?_
          refine zm_goto (tgt := 7) C dX9_readLengths_52 (by decide) ?_
          exact w
        · replace w := w.2 z
          refine zm_aload_n C rfl 0 rfl dX9_readLengths_43 ?_
          refine zm_bipush (v := nI 7) C (by decide) dX9_readLengths_44 ?_
          refine zm_put C ff_X9_58 ft_X9 fp_X9_9_17 rfl rfl dX9_readLengths_46 w (fun h2 w => ?_)
          refine zm_iinc (L' := [(0, .ref a0), (1, .int i1), (2, .int (i2 + (nI 1)))]) C (by decide) 2 [1, 2, 0] dX9_readLengths_49 rfl rfl rfl ?_
          refine zm_goto (tgt := 7) C dX9_readLengths_52 (by decide) ?_
          exact w
set_option maxRecDepth 20000 in
theorem B_X9_readLengths_57 {E : zm_E} {K : zm_K} {Post : zm_Po} {nc ns : Nat} (C : zm_Cx E K cX9_readLengths RX9 4 84 0 0 3) (Rt : zm_Rt E Post 0 0 none) {a0 : Nat} {i1 : Int32} {i2 : Int32} {h : zm_H} (hnc : nc ≤ 0) (hns : ns ≤ 0) (w : (i1 ≤ i2 → Post none h) ∧ (¬ i1 ≤ i2 → zm_gI h a0 9 17 fun v1 => (¬ v1 = 0 → Post none h) ∧ (v1 = 0 → zm_gR h a0 9 18 fun v2 => zm_lL K h v2 i2 fun v3 => zm_rc h a0 9 ∧ zm_cv K M_X9_take [.ref a0, .int v3.toInt32, .int (nI 0)] h fun h1 => zm_Go E nc ns 57 [(0, .ref a0), (1, .int i1), (2, .int (i2 + (nI 1)))] [] h1))) : zm_Go E nc ns 57 [(0, .ref a0), (1, .int i1), (2, .int i2)] [] h := by
  refine zm_iload_n C rfl 2 rfl dX9_readLengths_57 ?_
  refine zm_iload_n C rfl 1 rfl dX9_readLengths_58 ?_
  refine zm_icmp_ge (tgt := 87) C dX9_readLengths_59 (by decide) (fun z => ?_) (fun z => ?_)
  · replace w := w.1 z
    exact zm_return C Rt (by show nc ≤ 0; omega) (by show ns ≤ 0; omega) dX9_readLengths_87 w
  · replace w := w.2 z
    refine zm_aload_n C rfl 0 rfl dX9_readLengths_62 ?_
    refine zm_getI C ff_X9_58 dX9_readLengths_63 w (fun v1 w => ?_)
    refine zm_if_ne (tgt := 87) C dX9_readLengths_66 (by decide) (fun z => ?_) (fun z => ?_)
    · replace w := w.1 z
      exact zm_return C Rt (by show nc ≤ 0; omega) (by show ns ≤ 0; omega) dX9_readLengths_87 w
    · replace w := w.2 z
      refine zm_aload_n C rfl 0 rfl dX9_readLengths_69 ?_
      refine zm_aload_n C rfl 0 rfl dX9_readLengths_70 ?_
      refine zm_getR C ff_X9_38 dX9_readLengths_71 w (fun v2 w => ?_)
      refine zm_iload_n C rfl 2 rfl dX9_readLengths_74 ?_
      refine zm_ldL C dX9_readLengths_75 w (fun v3 w => ?_)
      refine zm_l2i C dX9_readLengths_76 ?_
      refine zm_iconst (v := nI 0) C (by decide) dX9_readLengths_77 ?_
      obtain ⟨wr, w⟩ := w
      refine zm_Vv (As := [.int v3.toInt32, .int (nI 0)]) (rest := []) C M_X9_take sv_X9_176 rfl dX9_readLengths_78 rfl (Nat.le_of_ble_eq_true rfl) (by decide) (by decide) (by show nc + 0 ≤ 0; omega) (by show ns + 0 ≤ 0; omega) wr w (fun h1 w => ?_)
      refine zm_iinc (L' := [(0, .ref a0), (1, .int i1), (2, .int (i2 + (nI 1)))]) C (by decide) 2 [1, 2, 0] dX9_readLengths_81 rfl rfl rfl ?_
      refine zm_goto (tgt := 57) C dX9_readLengths_84 (by decide) ?_
      exact w
