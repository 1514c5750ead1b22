set_option maxRecDepth 20000 in
theorem B_X2_front_0 {E : zm_E} {K : zm_K} {Post : zm_Po} {nc ns : Nat} (C : zm_Cx E K cX2_front RX2 7 146 0 0 8) (Rt : zm_Rt E Post 0 0 none) {a0 : Nat} {a1 : Nat} {i2 : Int32} {h : zm_H} (hnc : nc ≤ 0) (hns : ns ≤ 0) (w : zm_gR h a0 2 1 fun v1 => zm_rc h a0 2 ∧ zm_cv K M_X2_takeCode [.ref a0, .ref v1, .int i2] h fun h1 => zm_gR h1 a0 2 0 fun v2 => zm_rc h1 v2 7 ∧ zm_ci K M_X7_failed [.ref v2] h1 fun v3 h2 => (¬ v3 = 0 → zm_Go E nc ns 30 [(0, .ref a0), (1, .ref a1), (2, .int i2), (3, .int (nI 0))] [] h2) ∧ (v3 = 0 → zm_gR h2 a0 2 2 fun v4 => zm_rc h2 a0 2 ∧ zm_cv K M_X2_takeCode [.ref a0, .ref v4, .int i2] h2 fun h3 => zm_Go E nc ns 30 [(0, .ref a0), (1, .ref a1), (2, .int i2), (3, .int (nI 0))] [] h3)) : zm_Go E nc ns 0 [(0, .ref a0), (1, .ref a1), (2, .int i2)] [] h := by
  refine zm_aload_n C rfl 0 rfl dX2_front_0 ?_
  refine zm_aload_n C rfl 0 rfl dX2_front_1 ?_
  refine zm_getR C ff_X2_25 dX2_front_2 w (fun v1 w => ?_)
  refine zm_iload_n C rfl 2 rfl dX2_front_5 ?_
  obtain ⟨wr, w⟩ := w
  refine zm_Vv (As := [.ref v1, .int i2]) (rest := []) C M_X2_takeCode sv_X2_59 rfl dX2_front_6 rfl (Nat.le_of_ble_eq_true rfl) (by decide) (by decide) (by show nc + 0 ≤ 0; omega) (by show ns + 0 ≤ 0; omega) wr w (fun h1 w => ?_)
  refine zm_aload_n C rfl 0 rfl dX2_front_9 ?_
  refine zm_getR C ff_X2_12 dX2_front_10 w (fun v2 w => ?_)
  obtain ⟨wr, w⟩ := w
  refine zm_Vi (As := []) (rest := []) C M_X7_failed sv_X2_44 rfl dX2_front_13 rfl (Nat.le_of_ble_eq_true rfl) (by decide) (by decide) (by show nc + 0 ≤ 0; omega) (by show ns + 0 ≤ 0; omega) wr w (fun v3 h2 w => ?_)
  refine zm_if_ne (tgt := 28) C dX2_front_16 (by decide) (fun z => ?_) (fun z => ?_)
  · replace w := w.1 z
    refine zm_iconst (v := nI 0) C (by decide) dX2_front_28 ?_
    refine zm_istore_n (L' := [(0, .ref a0), (1, .ref a1), (2, .int i2), (3, .int (nI 0))]) C rfl (by decide) [1, 2, 3, 0] dX2_front_29 rfl ?_
    exact w
  · replace w := w.2 z
    refine zm_aload_n C rfl 0 rfl dX2_front_19 ?_
    refine zm_aload_n C rfl 0 rfl dX2_front_20 ?_
    refine zm_getR C ff_X2_29 dX2_front_21 w (fun v4 w => ?_)
    refine zm_iload_n C rfl 2 rfl dX2_front_24 ?_
    obtain ⟨wr, w⟩ := w
    refine zm_Vv (As := [.ref v4, .int i2]) (rest := []) C M_X2_takeCode sv_X2_59 rfl dX2_front_25 rfl (Nat.le_of_ble_eq_true rfl) (by decide) (by decide) (by show nc + 0 ≤ 0; omega) (by show ns + 0 ≤ 0; omega) wr w (fun h3 w => ?_)
    refine zm_iconst (v := nI 0) C (by decide) dX2_front_28 ?_
    refine zm_istore_n (L' := [(0, .ref a0), (1, .ref a1), (2, .int i2), (3, .int (nI 0))]) C rfl (by decide) [1, 2, 3, 0] dX2_front_29 rfl ?_
    exact w
set_option maxRecDepth 20000 in
theorem B_X2_front_30 {E : zm_E} {K : zm_K} {Post : zm_Po} {nc ns : Nat} (C : zm_Cx E K cX2_front RX2 7 146 0 0 8) (Rt : zm_Rt E Post 0 0 none) {a0 : Nat} {a1 : Nat} {i2 : Int32} {i3 : Int32} {h : zm_H} (hnc : nc ≤ 0) (hns : ns ≤ 0) (w : (i2 ≤ i3 → zm_gR h a0 2 0 fun v1 => zm_rc h v1 7 ∧ zm_cv K M_X7_expectEnd [.ref v1] h fun h1 => Post none h1) ∧ (¬ i2 ≤ i3 → zm_gR h a0 2 0 fun v2 => zm_rc h v2 7 ∧ zm_ci K M_X7_failed [.ref v2] h fun v3 h2 => (¬ v3 = 0 → zm_gR h2 a0 2 0 fun v4 => zm_rc h2 v4 7 ∧ zm_cv K M_X7_expectEnd [.ref v4] h2 fun h3 => Post none h3) ∧ (v3 = 0 → zm_gR h2 a0 2 1 fun v5 => zm_gR h2 v5 1 0 fun v6 => zm_lL K h2 v6 i3 fun v7 => zm_gR h2 a0 2 2 fun v8 => zm_gR h2 v8 1 0 fun v9 => zm_lL K h2 v9 i3 fun v10 => zm_ci K M_X2_isLength [.long v7] h2 fun v11 h4 => (v11 = 0 → zm_gR h4 a0 2 0 fun v12 => zm_rc h4 v12 7 ∧ zm_cv K M_X7_fail [.ref v12, .int (nI 7)] h4 fun h5 => zm_Go E nc ns 30 [(0, .ref a0), (1, .ref a1), (2, .int i2), (3, .int (i3 + (nI 1)))] [] h5) ∧ (¬ v11 = 0 → zm_ci K M_X2_isLength [.long v10] h4 fun v13 h6 => (v13 = 0 → zm_gR h6 a0 2 0 fun v14 => zm_rc h6 v14 7 ∧ zm_cv K M_X7_fail [.ref v14, .int (nI 7)] h6 fun h7 => zm_Go E nc ns 30 [(0, .ref a0), (1, .ref a1), (2, .int i2), (3, .int (i3 + (nI 1)))] [] h7) ∧ (¬ v13 = 0 → zm_ci K M_X2_isLength [.long (v7 + v10)] h6 fun v15 h8 => (v15 = 0 → zm_gR h8 a0 2 0 fun v16 => zm_rc h8 v16 7 ∧ zm_cv K M_X7_fail [.ref v16, .int (nI 7)] h8 fun h9 => zm_Go E nc ns 30 [(0, .ref a0), (1, .ref a1), (2, .int i2), (3, .int (i3 + (nI 1)))] [] h9) ∧ (¬ v15 = 0 → zm_rc h8 a1 5 ∧ zm_ci K M_X5_lengthOf [.ref a1, .int (i3 - (nI 1))] h8 fun v17 h10 => (0 < (lg_cmp v7 v17.toInt64) → zm_gR h10 a0 2 0 fun v18 => zm_rc h10 v18 7 ∧ zm_cv K M_X7_fail [.ref v18, .int (nI 7)] h10 fun h11 => zm_Go E nc ns 30 [(0, .ref a0), (1, .ref a1), (2, .int i2), (3, .int (i3 + (nI 1)))] [] h11) ∧ (¬ 0 < (lg_cmp v7 v17.toInt64) → zm_rc h10 a0 2 ∧ zm_cv K M_X2_takeText [.ref a0, .ref a1, .int v7.toInt32, .int v10.toInt32] h10 fun h12 => zm_Go E nc ns 30 [(0, .ref a0), (1, .ref a1), (2, .int i2), (3, .int (i3 + (nI 1)))] [] h12))))))) : zm_Go E nc ns 30 [(0, .ref a0), (1, .ref a1), (2, .int i2), (3, .int i3)] [] h := by
  refine zm_iload_n C rfl 3 rfl dX2_front_30 ?_
  refine zm_iload_n C rfl 2 rfl dX2_front_31 ?_
  refine zm_icmp_ge (tgt := 137) C dX2_front_32 (by decide) (fun z => ?_) (fun z => ?_)
  · replace w := w.1 z
    refine zm_aload_n C rfl 0 rfl dX2_front_137 ?_
    refine zm_getR C ff_X2_12 dX2_front_138 w (fun v1 w => ?_)
    obtain ⟨wr, w⟩ := w
    refine zm_Vv (As := []) (rest := []) C M_X7_expectEnd sv_X2_56 rfl dX2_front_141 rfl (Nat.le_of_ble_eq_true rfl) (by decide) (by decide) (by show nc + 0 ≤ 0; omega) (by show ns + 0 ≤ 0; omega) wr w (fun h1 w => ?_)
    exact zm_return C Rt (by show nc ≤ 0; omega) (by show ns ≤ 0; omega) dX2_front_144 w
  · replace w := w.2 z
    refine zm_aload_n C rfl 0 rfl dX2_front_35 ?_
    refine zm_getR C ff_X2_12 dX2_front_36 w (fun v2 w => ?_)
    obtain ⟨wr, w⟩ := w
    refine zm_Vi (As := []) (rest := []) C M_X7_failed sv_X2_44 rfl dX2_front_39 rfl (Nat.le_of_ble_eq_true rfl) (by decide) (by decide) (by show nc + 0 ≤ 0; omega) (by show ns + 0 ≤ 0; omega) wr w (fun v3 h2 w => ?_)
    refine zm_if_ne (tgt := 137) C dX2_front_42 (by decide) (fun z => ?_) (fun z => ?_)
    · replace w := w.1 z
      refine zm_aload_n C rfl 0 rfl dX2_front_137 ?_
      refine zm_getR C ff_X2_12 dX2_front_138 w (fun v4 w => ?_)
      obtain ⟨wr, w⟩ := w
      refine zm_Vv (As := []) (rest := []) C M_X7_expectEnd sv_X2_56 rfl dX2_front_141 rfl (Nat.le_of_ble_eq_true rfl) (by decide) (by decide) (by show nc + 0 ≤ 0; omega) (by show ns + 0 ≤ 0; omega) wr w (fun h3 w => ?_)
      exact zm_return C Rt (by show nc ≤ 0; omega) (by show ns ≤ 0; omega) dX2_front_144 w
    · replace w := w.2 z
      refine zm_aload_n C rfl 0 rfl dX2_front_45 ?_
      refine zm_getR C ff_X2_25 dX2_front_46 w (fun v5 w => ?_)
      refine zm_getR C ff_X2_63 dX2_front_49 w (fun v6 w => ?_)
      refine zm_iload_n C rfl 3 rfl dX2_front_52 ?_
      refine zm_ldL C dX2_front_53 w (fun v7 w => ?_)
      refine zm_lstore (L' := [(0, .ref a0), (1, .ref a1), (2, .int i2), (3, .int i3), (4, .long v7)]) C (by decide) [1, 2, 3, 4, 0] dX2_front_54 rfl ?_
      refine zm_aload_n C rfl 0 rfl dX2_front_56 ?_
      refine zm_getR C ff_X2_29 dX2_front_57 w (fun v8 w => ?_)
      refine zm_getR C ff_X2_63 dX2_front_60 w (fun v9 w => ?_)
      refine zm_iload_n C rfl 3 rfl dX2_front_63 ?_
      refine zm_ldL C dX2_front_64 w (fun v10 w => ?_)
      refine zm_lstore (L' := [(0, .ref a0), (1, .ref a1), (2, .int i2), (3, .int i3), (4, .long v7), (6, .long v10)]) C (by decide) [1, 2, 3, 4, 5, 0] dX2_front_65 rfl ?_
      refine zm_lload C 4 rfl dX2_front_67 ?_
      refine zm_Si (As := [.long v7]) (rest := []) C M_X2_isLength ss_X2_69 rfl dX2_front_69 rfl (Nat.le_of_ble_eq_true rfl) (by decide) (by decide) (by show nc + 0 ≤ 0; omega) (by show ns + 0 ≤ 0; omega) w (fun v11 h4 w => ?_)
      refine zm_if_eq (tgt := 122) C dX2_front_72 (by decide) (fun z => ?_) (fun z => ?_)
      · replace w := w.1 z
        refine zm_aload_n C rfl 0 rfl dX2_front_122 ?_
        refine zm_getR C ff_X2_12 dX2_front_123 w (fun v12 w => ?_)
        refine zm_bipush (v := nI 7) C (by decide) dX2_front_126 ?_
        obtain ⟨wr, w⟩ := w
        refine zm_Vv (As := [.int (nI 7)]) (rest := []) C M_X7_fail sv_X2_73 rfl dX2_front_128 rfl (Nat.le_of_ble_eq_true rfl) (by decide) (by decide) (by show nc + 0 ≤ 0; omega) (by show ns + 0 ≤ 0; omega) wr w (fun h5 w => ?_)
        refine zm_iinc (L' := [(0, .ref a0), (1, .ref a1), (2, .int i2), (3, .int (i3 + (nI 1))), (4, .long v7), (6, .long v10)]) C (by decide) 3 [1, 2, 3, 0, 4, 5] dX2_front_131 rfl rfl rfl ?_
        refine zm_goto (tgt := 30) C dX2_front_134 (by decide) ?_
        exact zm_loc [0, 1, 2, 3] rfl w
      · replace w := w.2 z
        refine zm_lload C 5 rfl dX2_front_75 ?_
        refine zm_Si (As := [.long v10]) (rest := []) C M_X2_isLength ss_X2_69 rfl dX2_front_77 rfl (Nat.le_of_ble_eq_true rfl) (by decide) (by decide) (by show nc + 0 ≤ 0; omega) (by show ns + 0 ≤ 0; omega) w (fun v13 h6 w => ?_)
        refine zm_if_eq (tgt := 122) C dX2_front_80 (by decide) (fun z => ?_) (fun z => ?_)
        · replace w := w.1 z
          refine zm_aload_n C rfl 0 rfl dX2_front_122 ?_
          refine zm_getR C ff_X2_12 dX2_front_123 w (fun v14 w => ?_)
          refine zm_bipush (v := nI 7) C (by decide) dX2_front_126 ?_
          obtain ⟨wr, w⟩ := w
          refine zm_Vv (As := [.int (nI 7)]) (rest := []) C M_X7_fail sv_X2_73 rfl dX2_front_128 rfl (Nat.le_of_ble_eq_true rfl) (by decide) (by decide) (by show nc + 0 ≤ 0; omega) (by show ns + 0 ≤ 0; omega) wr w (fun h7 w => ?_)
          refine zm_iinc (L' := [(0, .ref a0), (1, .ref a1), (2, .int i2), (3, .int (i3 + (nI 1))), (4, .long v7), (6, .long v10)]) C (by decide) 3 [1, 2, 3, 0, 4, 5] dX2_front_131 rfl rfl rfl ?_
          refine zm_goto (tgt := 30) C dX2_front_134 (by decide) ?_
          exact zm_loc [0, 1, 2, 3] rfl w
        · replace w := w.2 z
          refine zm_lload C 4 rfl dX2_front_83 ?_
          refine zm_lload C 5 rfl dX2_front_85 ?_
          refine zm_ladd C dX2_front_87 ?_
          refine zm_Si (As := [.long (v7 + v10)]) (rest := []) C M_X2_isLength ss_X2_69 rfl dX2_front_88 rfl (Nat.le_of_ble_eq_true rfl) (by decide) (by decide) (by show nc + 0 ≤ 0; omega) (by show ns + 0 ≤ 0; omega) w (fun v15 h8 w => ?_)
          refine zm_if_eq (tgt := 122) C dX2_front_91 (by decide) (fun z => ?_) (fun z => ?_)
          · replace w := w.1 z
            refine zm_aload_n C rfl 0 rfl dX2_front_122 ?_
            refine zm_getR C ff_X2_12 dX2_front_123 w (fun v16 w => ?_)
            refine zm_bipush (v := nI 7) C (by decide) dX2_front_126 ?_
            obtain ⟨wr, w⟩ := w
            refine zm_Vv (As := [.int (nI 7)]) (rest := []) C M_X7_fail sv_X2_73 rfl dX2_front_128 rfl (Nat.le_of_ble_eq_true rfl) (by decide) (by decide) (by show nc + 0 ≤ 0; omega) (by show ns + 0 ≤ 0; omega) wr w (fun h9 w => ?_)
            refine zm_iinc (L' := [(0, .ref a0), (1, .ref a1), (2, .int i2), (3, .int (i3 + (nI 1))), (4, .long v7), (6, .long v10)]) C (by decide) 3 [1, 2, 3, 0, 4, 5] dX2_front_131 rfl rfl rfl ?_
            refine zm_goto (tgt := 30) C dX2_front_134 (by decide) ?_
            exact zm_loc [0, 1, 2, 3] rfl w
          · replace w := w.2 z
            refine zm_lload C 4 rfl dX2_front_94 ?_
            refine zm_aload_n C rfl 1 rfl dX2_front_96 ?_
            refine zm_iload_n C rfl 3 rfl dX2_front_97 ?_
            refine zm_iconst (v := nI 1) C (by decide) dX2_front_98 ?_
            refine zm_isub C dX2_front_99 ?_
            obtain ⟨wr, w⟩ := w
            refine zm_Vi (As := [.int (i3 - (nI 1))]) (rest := [.long v7]) C M_X5_lengthOf sv_X2_77 rfl dX2_front_100 rfl (Nat.le_of_ble_eq_true rfl) (by decide) (by decide) (by show nc + 0 ≤ 0; omega) (by show ns + 0 ≤ 0; omega) wr w (fun v17 h10 w => ?_)
            refine zm_i2l C dX2_front_103 ?_
            refine zm_lcmp C dX2_front_104 ?_
            refine zm_if_gt (tgt := 122) C dX2_front_105 (by decide) (fun z => ?_) (fun z => ?_)
            · replace w := w.1 z
              refine zm_aload_n C rfl 0 rfl dX2_front_122 ?_
              refine zm_getR C ff_X2_12 dX2_front_123 w (fun v18 w => ?_)
              refine zm_bipush (v := nI 7) C (by decide) dX2_front_126 ?_
              obtain ⟨wr, w⟩ := w
              refine zm_Vv (As := [.int (nI 7)]) (rest := []) C M_X7_fail sv_X2_73 rfl dX2_front_128 rfl (Nat.le_of_ble_eq_true rfl) (by decide) (by decide) (by show nc + 0 ≤ 0; omega) (by show ns + 0 ≤ 0; omega) wr w (fun h11 w => ?_)
              refine zm_iinc (L' := [(0, .ref a0), (1, .ref a1), (2, .int i2), (3, .int (i3 + (nI 1))), (4, .long v7), (6, .long v10)]) C (by decide) 3 [1, 2, 3, 0, 4, 5] dX2_front_131 rfl rfl rfl ?_
              refine zm_goto (tgt := 30) C dX2_front_134 (by decide) ?_
              exact zm_loc [0, 1, 2, 3] rfl w
            · replace w := w.2 z
              refine zm_aload_n C rfl 0 rfl dX2_front_108 ?_
              refine zm_aload_n C rfl 1 rfl dX2_front_109 ?_
              refine zm_lload C 4 rfl dX2_front_110 ?_
              refine zm_l2i C dX2_front_112 ?_
              refine zm_lload C 5 rfl dX2_front_113 ?_
              refine zm_l2i C dX2_front_115 ?_
              obtain ⟨wr, w⟩ := w
              refine zm_Vv (As := [.ref a1, .int v7.toInt32, .int v10.toInt32]) (rest := []) C M_X2_takeText sv_X2_52 rfl dX2_front_116 rfl (Nat.le_of_ble_eq_true rfl) (by decide) (by decide) (by show nc + 0 ≤ 0; omega) (by show ns + 0 ≤ 0; omega) wr w (fun h12 w => ?_)
              refine zm_goto (tgt := 131) C dX2_front_119 (by decide) ?_
              refine zm_iinc (L' := [(0, .ref a0), (1, .ref a1), (2, .int i2), (3, .int (i3 + (nI 1))), (4, .long v7), (6, .long v10)]) C (by decide) 3 [1, 2, 3, 0, 4, 5] dX2_front_131 rfl rfl rfl ?_
              refine zm_goto (tgt := 30) C dX2_front_134 (by decide) ?_
              exact zm_loc [0, 1, 2, 3] rfl w
set_option maxRecDepth 20000 in
theorem B_X2_dictionary_0 {E : zm_E} {K : zm_K} {Post : zm_Po} {nc ns : Nat} (C : zm_Cx E K cX2_dictionary RX2 6 122 0 0 7) (Rt : zm_Rt E Post 0 0 none) {a0 : Nat} {a1 : Nat} {i2 : Int32} {h : zm_H} (hnc : nc ≤ 0) (hns : ns ≤ 0) (w : zm_gR h a0 2 0 fun v1 => zm_rc h v1 7 ∧ zm_cl K M_X7_varint [.ref v1] h fun v2 h1 => ((lg_cmp v2 (lN 0)) < 0 → zm_gR h1 a0 2 0 fun v3 => zm_rc h1 v3 7 ∧ zm_cv K M_X7_fail [.ref v3, .int (nI 4)] h1 fun h2 => zm_Go E nc ns 32 [(0, .ref a0), (1, .ref a1), (2, .int i2), (3, .long v2), (5, .int (nI 0))] [] h2) ∧ (¬ (lg_cmp v2 (lN 0)) < 0 → ((lg_cmp v2 i2.toInt64) ≤ 0 → zm_Go E nc ns 32 [(0, .ref a0), (1, .ref a1), (2, .int i2), (3, .long v2), (5, .int (nI 0))] [] h1) ∧ (¬ (lg_cmp v2 i2.toInt64) ≤ 0 → zm_gR h1 a0 2 0 fun v4 => zm_rc h1 v4 7 ∧ zm_cv K M_X7_fail [.ref v4, .int (nI 4)] h1 fun h3 => zm_Go E nc ns 32 [(0, .ref a0), (1, .ref a1), (2, .int i2), (3, .long v2), (5, .int (nI 0))] [] h3))) : zm_Go E nc ns 0 [(0, .ref a0), (1, .ref a1), (2, .int i2)] [] h := by
  refine zm_aload_n C rfl 0 rfl dX2_dictionary_0 ?_
  refine zm_getR C ff_X2_12 dX2_dictionary_1 w (fun v1 w => ?_)
  obtain ⟨wr, w⟩ := w
  refine zm_Vl (As := []) (rest := []) C M_X7_varint sv_X2_83 rfl dX2_dictionary_4 rfl (Nat.le_of_ble_eq_true rfl) (by decide) (by decide) (by show nc + 0 ≤ 0; omega) (by show ns + 0 ≤ 0; omega) wr w (fun v2 h1 w => ?_)
  refine zm_lstore_n (L' := [(0, .ref a0), (1, .ref a1), (2, .int i2), (3, .long v2)]) C rfl (by decide) [1, 2, 3, 0] dX2_dictionary_7 rfl ?_
  refine zm_lload_n C rfl 3 rfl dX2_dictionary_8 ?_
  refine zm_lconst (v := lN 0) C (by decide) dX2_dictionary_9 ?_
  refine zm_lcmp C dX2_dictionary_10 ?_
  refine zm_if_lt (tgt := 21) C dX2_dictionary_11 (by decide) (fun z => ?_) (fun z => ?_)
  · replace w := w.1 z
    refine zm_aload_n C rfl 0 rfl dX2_dictionary_21 ?_
    refine zm_getR C ff_X2_12 dX2_dictionary_22 w (fun v3 w => ?_)
    refine zm_iconst (v := nI 4) C (by decide) dX2_dictionary_25 ?_
    obtain ⟨wr, w⟩ := w
    refine zm_Vv (As := [.int (nI 4)]) (rest := []) C M_X7_fail sv_X2_73 rfl dX2_dictionary_26 rfl (Nat.le_of_ble_eq_true rfl) (by decide) (by decide) (by show nc + 0 ≤ 0; omega) (by show ns + 0 ≤ 0; omega) wr w (fun h2 w => ?_)
    refine zm_iconst (v := nI 0) C (by decide) dX2_dictionary_29 ?_
    refine zm_istore (L' := [(0, .ref a0), (1, .ref a1), (2, .int i2), (3, .long v2), (5, .int (nI 0))]) C (by decide) [1, 2, 3, 4, 0] dX2_dictionary_30 rfl ?_
    exact w
  · replace w := w.2 z
    refine zm_lload_n C rfl 3 rfl dX2_dictionary_14 ?_
    refine zm_iload_n C rfl 2 rfl dX2_dictionary_15 ?_
    refine zm_i2l C dX2_dictionary_16 ?_
    refine zm_lcmp C dX2_dictionary_17 ?_
    refine zm_if_le (tgt := 29) C dX2_dictionary_18 (by decide) (fun z => ?_) (fun z => ?_)
    · replace w := w.1 z
      refine zm_iconst (v := nI 0) C (by decide) dX2_dictionary_29 ?_
      refine zm_istore (L' := [(0, .ref a0), (1, .ref a1), (2, .int i2), (3, .long v2), (5, .int (nI 0))]) C (by decide) [1, 2, 3, 4, 0] dX2_dictionary_30 rfl ?_
      exact w
    · replace w := w.2 z
      refine zm_aload_n C rfl 0 rfl dX2_dictionary_21 ?_
      refine zm_getR C ff_X2_12 dX2_dictionary_22 w (fun v4 w => ?_)
      refine zm_iconst (v := nI 4) C (by decide) dX2_dictionary_25 ?_
      obtain ⟨wr, w⟩ := w
      refine zm_Vv (As := [.int (nI 4)]) (rest := []) C M_X7_fail sv_X2_73 rfl dX2_dictionary_26 rfl (Nat.le_of_ble_eq_true rfl) (by decide) (by decide) (by show nc + 0 ≤ 0; omega) (by show ns + 0 ≤ 0; omega) wr w (fun h3 w => ?_)
      refine zm_iconst (v := nI 0) C (by decide) dX2_dictionary_29 ?_
      refine zm_istore (L' := [(0, .ref a0), (1, .ref a1), (2, .int i2), (3, .long v2), (5, .int (nI 0))]) C (by decide) [1, 2, 3, 4, 0] dX2_dictionary_30 rfl ?_
      exact w
set_option maxRecDepth 20000 in
theorem B_X2_dictionary_32 {E : zm_E} {K : zm_K} {Post : zm_Po} {nc ns : Nat} (C : zm_Cx E K cX2_dictionary RX2 6 122 0 0 7) (Rt : zm_Rt E Post 0 0 none) {a0 : Nat} {a1 : Nat} {i2 : Int32} {l3 : Int64} {i5 : Int32} {h : zm_H} (hnc : nc ≤ 0) (hns : ns ≤ 0) (w : (0 ≤ (lg_cmp i5.toInt64 l3) → zm_gR h a0 2 0 fun v1 => zm_rc h v1 7 ∧ zm_ci K M_X7_nextByte [.ref v1] h fun v2 h1 => (v2 ≤ (nI 32) → zm_gR h1 a0 2 3 fun v3 => zm_gR h1 a0 2 0 fun v4 => zm_rc h1 v3 6 ∧ zm_cv K M_X6_readFrom [.ref v3, .ref v4, .int i2, .int v2] h1 fun h2 => zm_gR h2 a0 2 0 fun v5 => zm_rc h2 v5 7 ∧ zm_cv K M_X7_expectEnd [.ref v5] h2 fun h3 => zm_Go E nc ns 110 [(0, .ref a0), (1, .ref a1), (2, .int i2), (3, .long l3), (6, .int (nI 0))] [] h3) ∧ (¬ v2 ≤ (nI 32) → zm_gR h1 a0 2 0 fun v6 => zm_rc h1 v6 7 ∧ zm_cv K M_X7_fail [.ref v6, .int (nI 5)] h1 fun h4 => zm_gR h4 a0 2 3 fun v7 => zm_gR h4 a0 2 0 fun v8 => zm_rc h4 v7 6 ∧ zm_cv K M_X6_readFrom [.ref v7, .ref v8, .int i2, .int v2] h4 fun h5 => zm_gR h5 a0 2 0 fun v9 => zm_rc h5 v9 7 ∧ zm_cv K M_X7_expectEnd [.ref v9] h5 fun h6 => zm_Go E nc ns 110 [(0, .ref a0), (1, .ref a1), (2, .int i2), (3, .long l3), (6, .int (nI 0))] [] h6)) ∧ (¬ 0 ≤ (lg_cmp i5.toInt64 l3) → zm_gR h a0 2 0 fun v10 => zm_rc h v10 7 ∧ zm_ci K M_X7_failed [.ref v10] h fun v11 h7 => (¬ v11 = 0 → zm_gR h7 a0 2 0 fun v12 => zm_rc h7 v12 7 ∧ zm_ci K M_X7_nextByte [.ref v12] h7 fun v13 h8 => (v13 ≤ (nI 32) → zm_gR h8 a0 2 3 fun v14 => zm_gR h8 a0 2 0 fun v15 => zm_rc h8 v14 6 ∧ zm_cv K M_X6_readFrom [.ref v14, .ref v15, .int i2, .int v13] h8 fun h9 => zm_gR h9 a0 2 0 fun v16 => zm_rc h9 v16 7 ∧ zm_cv K M_X7_expectEnd [.ref v16] h9 fun h10 => zm_Go E nc ns 110 [(0, .ref a0), (1, .ref a1), (2, .int i2), (3, .long l3), (6, .int (nI 0))] [] h10) ∧ (¬ v13 ≤ (nI 32) → zm_gR h8 a0 2 0 fun v17 => zm_rc h8 v17 7 ∧ zm_cv K M_X7_fail [.ref v17, .int (nI 5)] h8 fun h11 => zm_gR h11 a0 2 3 fun v18 => zm_gR h11 a0 2 0 fun v19 => zm_rc h11 v18 6 ∧ zm_cv K M_X6_readFrom [.ref v18, .ref v19, .int i2, .int v13] h11 fun h12 => zm_gR h12 a0 2 0 fun v20 => zm_rc h12 v20 7 ∧ zm_cv K M_X7_expectEnd [.ref v20] h12 fun h13 => zm_Go E nc ns 110 [(0, .ref a0), (1, .ref a1), (2, .int i2), (3, .long l3), (6, .int (nI 0))] [] h13)) ∧ (v11 = 0 → zm_rc h7 a0 2 ∧ zm_cv K M_X2_enterText [.ref a0, .int i5] h7 fun h14 => zm_Go E nc ns 32 [(0, .ref a0), (1, .ref a1), (2, .int i2), (3, .long l3), (5, .int (i5 + (nI 1)))] [] h14))) : zm_Go E nc ns 32 [(0, .ref a0), (1, .ref a1), (2, .int i2), (3, .long l3), (5, .int i5)] [] h := by
  refine zm_iload C 4 rfl dX2_dictionary_32 ?_
  refine zm_i2l C dX2_dictionary_34 ?_
  refine zm_lload_n C rfl 3 rfl dX2_dictionary_35 ?_
  refine zm_lcmp C dX2_dictionary_36 ?_
  refine zm_if_ge (tgt := 62) C dX2_dictionary_37 (by decide) (fun z => ?_) (fun z => ?_)
  · replace w := w.1 z
    refine zm_aload_n C rfl 0 rfl dX2_dictionary_62 ?_
    refine zm_getR C ff_X2_12 dX2_dictionary_63 w (fun v1 w => ?_)
    obtain ⟨wr, w⟩ := w
    refine zm_Vi (As := []) (rest := []) C M_X7_nextByte sv_X2_90 rfl dX2_dictionary_66 rfl (Nat.le_of_ble_eq_true rfl) (by decide) (by decide) (by show nc + 0 ≤ 0; omega) (by show ns + 0 ≤ 0; omega) wr w (fun v2 h1 w => ?_)
    refine zm_istore (L' := [(0, .ref a0), (1, .ref a1), (2, .int i2), (3, .long l3), (5, .int v2)]) C (by decide) [1, 2, 3, 4, 0] dX2_dictionary_69 rfl ?_
    refine zm_iload C 4 rfl dX2_dictionary_71 ?_
    refine zm_bipush (v := nI 32) C (by decide) dX2_dictionary_73 ?_
    refine zm_icmp_le (tgt := 86) C dX2_dictionary_75 (by decide) (fun z => ?_) (fun z => ?_)
    · replace w := w.1 z
      refine zm_aload_n C rfl 0 rfl dX2_dictionary_86 ?_
      refine zm_getR C ff_X2_32 dX2_dictionary_87 w (fun v3 w => ?_)
      refine zm_aload_n C rfl 0 rfl dX2_dictionary_90 ?_
      refine zm_getR C ff_X2_12 dX2_dictionary_91 w (fun v4 w => ?_)
      refine zm_iload_n C rfl 2 rfl dX2_dictionary_94 ?_
      refine zm_iload C 4 rfl dX2_dictionary_95 ?_
      obtain ⟨wr, w⟩ := w
      refine zm_Vv (As := [.ref v4, .int i2, .int v2]) (rest := []) C M_X6_readFrom sv_X2_93 rfl dX2_dictionary_97 rfl (Nat.le_of_ble_eq_true rfl) (by decide) (by decide) (by show nc + 0 ≤ 0; omega) (by show ns + 0 ≤ 0; omega) wr w (fun h2 w => ?_)
      refine zm_aload_n C rfl 0 rfl dX2_dictionary_100 ?_
      refine zm_getR C ff_X2_12 dX2_dictionary_101 w (fun v5 w => ?_)
      obtain ⟨wr, w⟩ := w
      refine zm_Vv (As := []) (rest := []) C M_X7_expectEnd sv_X2_56 rfl dX2_dictionary_104 rfl (Nat.le_of_ble_eq_true rfl) (by decide) (by decide) (by show nc + 0 ≤ 0; omega) (by show ns + 0 ≤ 0; omega) wr w (fun h3 w => ?_)
      refine zm_iconst (v := nI 0) C (by decide) dX2_dictionary_107 ?_
      refine zm_istore (L' := [(0, .ref a0), (1, .ref a1), (2, .int i2), (3, .long l3), (5, .int v2), (6, .int (nI 0))]) C (by decide) [1, 2, 3, 4, 5, 0] dX2_dictionary_108 rfl ?_
      exact zm_loc [0, 1, 2, 3, 5] rfl w
    · replace w := w.2 z
      refine zm_aload_n C rfl 0 rfl dX2_dictionary_78 ?_
      refine zm_getR C ff_X2_12 dX2_dictionary_79 w (fun v6 w => ?_)
      refine zm_iconst (v := nI 5) C (by decide) dX2_dictionary_82 ?_
      obtain ⟨wr, w⟩ := w
      refine zm_Vv (As := [.int (nI 5)]) (rest := []) C M_X7_fail sv_X2_73 rfl dX2_dictionary_83 rfl (Nat.le_of_ble_eq_true rfl) (by decide) (by decide) (by show nc + 0 ≤ 0; omega) (by show ns + 0 ≤ 0; omega) wr w (fun h4 w => ?_)
      refine zm_aload_n C rfl 0 rfl dX2_dictionary_86 ?_
      refine zm_getR C ff_X2_32 dX2_dictionary_87 w (fun v7 w => ?_)
      refine zm_aload_n C rfl 0 rfl dX2_dictionary_90 ?_
      refine zm_getR C ff_X2_12 dX2_dictionary_91 w (fun v8 w => ?_)
      refine zm_iload_n C rfl 2 rfl dX2_dictionary_94 ?_
      refine zm_iload C 4 rfl dX2_dictionary_95 ?_
      obtain ⟨wr, w⟩ := w
      refine zm_Vv (As := [.ref v8, .int i2, .int v2]) (rest := []) C M_X6_readFrom sv_X2_93 rfl dX2_dictionary_97 rfl (Nat.le_of_ble_eq_true rfl) (by decide) (by decide) (by show nc + 0 ≤ 0; omega) (by show ns + 0 ≤ 0; omega) wr w (fun h5 w => ?_)
      refine zm_aload_n C rfl 0 rfl dX2_dictionary_100 ?_
      refine zm_getR C ff_X2_12 dX2_dictionary_101 w (fun v9 w => ?_)
      obtain ⟨wr, w⟩ := w
      refine zm_Vv (As := []) (rest := []) C M_X7_expectEnd sv_X2_56 rfl dX2_dictionary_104 rfl (Nat.le_of_ble_eq_true rfl) (by decide) (by decide) (by show nc + 0 ≤ 0; omega) (by show ns + 0 ≤ 0; omega) wr w (fun h6 w => ?_)
      refine zm_iconst (v := nI 0) C (by decide) dX2_dictionary_107 ?_
      refine zm_istore (L' := [(0, .ref a0), (1, .ref a1), (2, .int i2), (3, .long l3), (5, .int v2), (6, .int (nI 0))]) C (by decide) [1, 2, 3, 4, 5, 0] dX2_dictionary_108 rfl ?_
      exact zm_loc [0, 1, 2, 3, 5] rfl w
  · replace w := w.2 z
    refine zm_aload_n C rfl 0 rfl dX2_dictionary_40 ?_
    refine zm_getR C ff_X2_12 dX2_dictionary_41 w (fun v10 w => ?_)
    obtain ⟨wr, w⟩ := w
    refine zm_Vi (As := []) (rest := []) C M_X7_failed sv_X2_44 rfl dX2_dictionary_44 rfl (Nat.le_of_ble_eq_true rfl) (by decide) (by decide) (by show nc + 0 ≤ 0; omega) (by show ns + 0 ≤ 0; omega) wr w (fun v11 h7 w => ?_)
    refine zm_if_ne (tgt := 62) C dX2_dictionary_47 (by decide) (fun z => ?_) (fun z => ?_)
    · replace w := w.1 z
      refine zm_aload_n C rfl 0 rfl dX2_dictionary_62 ?_
      refine zm_getR C ff_X2_12 dX2_dictionary_63 w (fun v12 w => ?_)
      obtain ⟨wr, w⟩ := w
      refine zm_Vi (As := []) (rest := []) C M_X7_nextByte sv_X2_90 rfl dX2_dictionary_66 rfl (Nat.le_of_ble_eq_true rfl) (by decide) (by decide) (by show nc + 0 ≤ 0; omega) (by show ns + 0 ≤ 0; omega) wr w (fun v13 h8 w => ?_)
      refine zm_istore (L' := [(0, .ref a0), (1, .ref a1), (2, .int i2), (3, .long l3), (5, .int v13)]) C (by decide) [1, 2, 3, 4, 0] dX2_dictionary_69 rfl ?_
      refine zm_iload C 4 rfl dX2_dictionary_71 ?_
      refine zm_bipush (v := nI 32) C (by decide) dX2_dictionary_73 ?_
      refine zm_icmp_le (tgt := 86) C dX2_dictionary_75 (by decide) (fun z => ?_) (fun z => ?_)
      · replace w := w.1 z
        refine zm_aload_n C rfl 0 rfl dX2_dictionary_86 ?_
        refine zm_getR C ff_X2_32 dX2_dictionary_87 w (fun v14 w => ?_)
        refine zm_aload_n C rfl 0 rfl dX2_dictionary_90 ?_
        refine zm_getR C ff_X2_12 dX2_dictionary_91 w (fun v15 w => ?_)
        refine zm_iload_n C rfl 2 rfl dX2_dictionary_94 ?_
        refine zm_iload C 4 rfl dX2_dictionary_95 ?_
        obtain ⟨wr, w⟩ := w
        refine zm_Vv (As := [.ref v15, .int i2, .int v13]) (rest := []) C M_X6_readFrom sv_X2_93 rfl dX2_dictionary_97 rfl (Nat.le_of_ble_eq_true rfl) (by decide) (by decide) (by show nc + 0 ≤ 0; omega) (by show ns + 0 ≤ 0; omega) wr w (fun h9 w => ?_)
        refine zm_aload_n C rfl 0 rfl dX2_dictionary_100 ?_
        refine zm_getR C ff_X2_12 dX2_dictionary_101 w (fun v16 w => ?_)
        obtain ⟨wr, w⟩ := w
        refine zm_Vv (As := []) (rest := []) C M_X7_expectEnd sv_X2_56 rfl dX2_dictionary_104 rfl (Nat.le_of_ble_eq_true rfl) (by decide) (by decide) (by show nc + 0 ≤ 0; omega) (by show ns + 0 ≤ 0; omega) wr w (fun h10 w => ?_)
        refine zm_iconst (v := nI 0) C (by decide) dX2_dictionary_107 ?_
        refine zm_istore (L' := [(0, .ref a0), (1, .ref a1), (2, .int i2), (3, .long l3), (5, .int v13), (6, .int (nI 0))]) C (by decide) [1, 2, 3, 4, 5, 0] dX2_dictionary_108 rfl ?_
        exact zm_loc [0, 1, 2, 3, 5] rfl w
      · replace w := w.2 z
        refine zm_aload_n C rfl 0 rfl dX2_dictionary_78 ?_
        refine zm_getR C ff_X2_12 dX2_dictionary_79 w (fun v17 w => ?_)
        refine zm_iconst (v := nI 5) C (by decide) dX2_dictionary_82 ?_
        obtain ⟨wr, w⟩ := w
        refine zm_Vv (As := [.int (nI 5)]) (rest := []) C M_X7_fail sv_X2_73 rfl dX2_dictionary_83 rfl (Nat.le_of_ble_eq_true rfl) (by decide) (by decide) (by show nc + 0 ≤ 0; omega) (by show ns + 0 ≤ 0; omega) wr w (fun h11 w => ?_)
        refine zm_aload_n C rfl 0 rfl dX2_dictionary_86 ?_
        refine zm_getR C ff_X2_32 dX2_dictionary_87 w (fun v18 w => ?_)
        refine zm_aload_n C rfl 0 rfl dX2_dictionary_90 ?_
        refine zm_getR C ff_X2_12 dX2_dictionary_91 w (fun v19 w => ?_)
        refine zm_iload_n C rfl 2 rfl dX2_dictionary_94 ?_
        refine zm_iload C 4 rfl dX2_dictionary_95 ?_
        obtain ⟨wr, w⟩ := w
        refine zm_Vv (As := [.ref v19, .int i2, .int v13]) (rest := []) C M_X6_readFrom sv_X2_93 rfl dX2_dictionary_97 rfl (Nat.le_of_ble_eq_true rfl) (by decide) (by decide) (by show nc + 0 ≤ 0; omega) (by show ns + 0 ≤ 0; omega) wr w (fun h12 w => ?_)
        refine zm_aload_n C rfl 0 rfl dX2_dictionary_100 ?_
        refine zm_getR C ff_X2_12 dX2_dictionary_101 w (fun v20 w => ?_)
        obtain ⟨wr, w⟩ := w
        refine zm_Vv (As := []) (rest := []) C M_X7_expectEnd sv_X2_56 rfl dX2_dictionary_104 rfl (Nat.le_of_ble_eq_true rfl) (by decide) (by decide) (by show nc + 0 ≤ 0; omega) (by show ns + 0 ≤ 0; omega) wr w (fun h13 w => ?_)
        refine zm_iconst (v := nI 0) C (by decide) dX2_dictionary_107 ?_
        refine zm_istore (L' := [(0, .ref a0), (1, .ref a1), (2, .int i2), (3, .long l3), (5, .int v13), (6, .int (nI 0))]) C (by decide) [1, 2, 3, 4, 5, 0] dX2_dictionary_108 rfl ?_
        exact zm_loc [0, 1, 2, 3, 5] rfl w
    · replace w := w.2 z
      refine zm_aload_n C rfl 0 rfl dX2_dictionary_50 ?_
      refine zm_iload C 4 rfl dX2_dictionary_51 ?_
      obtain ⟨wr, w⟩ := w
      refine zm_Vv (As := [.int i5]) (rest := []) C M_X2_enterText sv_X2_87 rfl dX2_dictionary_53 rfl (Nat.le_of_ble_eq_true rfl) (by decide) (by decide) (by show nc + 0 ≤ 0; omega) (by show ns + 0 ≤ 0; omega) wr w (fun h14 w => ?_)
      refine zm_iinc (L' := [(0, .ref a0), (1, .ref a1), (2, .int i2), (3, .long l3), (5, .int (i5 + (nI 1)))]) C (by decide) 4 [1, 2, 3, 4, 0] dX2_dictionary_56 rfl rfl rfl ?_
      refine zm_goto (tgt := 32) C dX2_dictionary_59 (by decide) ?_
      exact w
set_option maxRecDepth 20000 in
theorem B_X2_dictionary_110 {E : zm_E} {K : zm_K} {Post : zm_Po} {nc ns : Nat} (C : zm_Cx E K cX2_dictionary RX2 6 122 0 0 7) (Rt : zm_Rt E Post 0 0 none) {a0 : Nat} {a1 : Nat} {i2 : Int32} {l3 : Int64} {i6 : Int32} {h : zm_H} (hnc : nc ≤ 0) (hns : ns ≤ 0) (w : (i2 ≤ i6 → Post none h) ∧ (¬ i2 ≤ i6 → zm_gR h a0 2 0 fun v1 => zm_rc h v1 7 ∧ zm_ci K M_X7_failed [.ref v1] h fun v2 h1 => (¬ v2 = 0 → Post none h1) ∧ (v2 = 0 → zm_gR h1 a0 2 3 fun v3 => zm_gR h1 v3 6 0 fun v4 => zm_lL K h1 v4 i6 fun v5 => zm_rc h1 a0 2 ∧ zm_cv K M_X2_copyText [.ref a0, .ref a1, .long v5, .long l3] h1 fun h2 => zm_Go E nc ns 110 [(0, .ref a0), (1, .ref a1), (2, .int i2), (3, .long l3), (6, .int (i6 + (nI 1)))] [] h2))) : zm_Go E nc ns 110 [(0, .ref a0), (1, .ref a1), (2, .int i2), (3, .long l3), (6, .int i6)] [] h := by
  refine zm_iload C 4 rfl dX2_dictionary_110 ?_
  refine zm_iload_n C rfl 2 rfl dX2_dictionary_112 ?_
  refine zm_icmp_ge (tgt := 148) C dX2_dictionary_113 (by decide) (fun z => ?_) (fun z => ?_)
  · replace w := w.1 z
    exact zm_return C Rt (by show nc ≤ 0; omega) (by show ns ≤ 0; omega) dX2_dictionary_148 w
  · replace w := w.2 z
    refine zm_aload_n C rfl 0 rfl dX2_dictionary_116 ?_
    refine zm_getR C ff_X2_12 dX2_dictionary_117 w (fun v1 w => ?_)
    obtain ⟨wr, w⟩ := w
    refine zm_Vi (As := []) (rest := []) C M_X7_failed sv_X2_44 rfl dX2_dictionary_120 rfl (Nat.le_of_ble_eq_true rfl) (by decide) (by decide) (by show nc + 0 ≤ 0; omega) (by show ns + 0 ≤ 0; omega) wr w (fun v2 h1 w => ?_)
    refine zm_if_ne (tgt := 148) C dX2_dictionary_123 (by decide) (fun z => ?_) (fun z => ?_)
    · replace w := w.1 z
      exact zm_return C Rt (by show nc ≤ 0; omega) (by show ns ≤ 0; omega) dX2_dictionary_148 w
    · replace w := w.2 z
      refine zm_aload_n C rfl 0 rfl dX2_dictionary_126 ?_
      refine zm_aload_n C rfl 1 rfl dX2_dictionary_127 ?_
      refine zm_aload_n C rfl 0 rfl dX2_dictionary_128 ?_
      refine zm_getR C ff_X2_32 dX2_dictionary_129 w (fun v3 w => ?_)
      refine zm_getR C ff_X2_99 dX2_dictionary_132 w (fun v4 w => ?_)
      refine zm_iload C 4 rfl dX2_dictionary_135 ?_
      refine zm_ldL C dX2_dictionary_137 w (fun v5 w => ?_)
      refine zm_lload_n C rfl 3 rfl dX2_dictionary_138 ?_
      obtain ⟨wr, w⟩ := w
      refine zm_Vv (As := [.ref a1, .long v5, .long l3]) (rest := []) C M_X2_copyText sv_X2_100 rfl dX2_dictionary_139 rfl (Nat.le_of_ble_eq_true rfl) (by decide) (by decide) (by show nc + 0 ≤ 0; omega) (by show ns + 0 ≤ 0; omega) wr w (fun h2 w => ?_)
      refine zm_iinc (L' := [(0, .ref a0), (1, .ref a1), (2, .int i2), (3, .long l3), (6, .int (i6 + (nI 1)))]) C (by decide) 4 [1, 2, 3, 4, 0] dX2_dictionary_142 rfl rfl rfl ?_
      refine zm_goto (tgt := 110) C dX2_dictionary_145 (by decide) ?_
      exact w
set_option maxRecDepth 20000 in
theorem B_X2_isLength_0 {E : zm_E} {K : zm_K} {Post : zm_Po} {nc ns : Nat} (C : zm_Cx E K cX2_isLength RX2 1 0 0 0 2) (Rt : zm_Rt E Post 0 0 (some .boolean)) {l0 : Int64} {h : zm_H} (hnc : nc ≤ 0) (hns : ns ≤ 0) (w : ((lg_cmp l0 (lN 0)) < 0 → narrow .boolean (.int (nI 0)) = .int (nI 0) ∧ Post (some (.int (nI 0))) h) ∧ (¬ (lg_cmp l0 (lN 0)) < 0 → (0 < (lg_cmp l0 (lN 255)) → narrow .boolean (.int (nI 0)) = .int (nI 0) ∧ Post (some (.int (nI 0))) h) ∧ (¬ 0 < (lg_cmp l0 (lN 255)) → narrow .boolean (.int (nI 1)) = .int (nI 1) ∧ Post (some (.int (nI 1))) h))) : zm_Go E nc ns 0 [(0, .long l0)] [] h := by
  refine zm_lload_n C rfl 0 rfl dX2_isLength_0 ?_
  refine zm_lconst (v := lN 0) C (by decide) dX2_isLength_1 ?_
  refine zm_lcmp C dX2_isLength_2 ?_
  refine zm_if_lt (tgt := 18) C dX2_isLength_3 (by decide) (fun z => ?_) (fun z => ?_)
  · replace w := w.1 z
    refine zm_iconst (v := nI 0) C (by decide) dX2_isLength_18 ?_
    exact zm_ireturn C Rt (by show nc ≤ 0; omega) (by show ns ≤ 0; omega) w.1 dX2_isLength_19 w.2
  · replace w := w.2 z
    refine zm_lload_n C rfl 0 rfl dX2_isLength_6 ?_
    refine zm_ldc2 (v := lN 255) C (zm_inG (by decide +kernel) rfl) dX2_isLength_7 ?_
    refine zm_lcmp C dX2_isLength_10 ?_
    refine zm_if_gt (tgt := 18) C dX2_isLength_11 (by decide) (fun z => ?_) (fun z => ?_)
    · replace w := w.1 z
      refine zm_iconst (v := nI 0) C (by decide) dX2_isLength_18 ?_
      exact zm_ireturn C Rt (by show nc ≤ 0; omega) (by show ns ≤ 0; omega) w.1 dX2_isLength_19 w.2
    · replace w := w.2 z
      refine zm_iconst (v := nI 1) C (by decide) dX2_isLength_14 ?_
      refine zm_goto (tgt := 19) C dX2_isLength_15 (by decide) ?_
      exact zm_ireturn C Rt (by show nc ≤ 0; omega) (by show ns ≤ 0; omega) w.1 dX2_isLength_19 w.2
set_option maxRecDepth 20000 in
theorem B_X2_textLength_0 {E : zm_E} {K : zm_K} {Post : zm_Po} {nc ns : Nat} (C : zm_Cx E K cX2_textLength RX2 4 68 0 0 3) (Rt : zm_Rt E Post 0 0 (some .int)) {a0 : Nat} {h : zm_H} (hnc : nc ≤ 0) (hns : ns ≤ 0) (w : zm_gR h a0 2 0 fun v1 => zm_rc h v1 7 ∧ zm_cl K M_X7_varint [.ref v1] h fun v2 h1 => zm_ci K M_X2_isLength [.long v2] h1 fun v3 h2 => (¬ v3 = 0 → zm_gR h2 a0 2 0 fun v4 => zm_rc h2 v4 7 ∧ zm_ci K M_X7_failed [.ref v4] h2 fun v5 h3 => (v5 = 0 → Post (some (.int v2.toInt32)) h3) ∧ (¬ v5 = 0 → Post (some (.int (nI 0))) h3)) ∧ (v3 = 0 → zm_gR h2 a0 2 0 fun v6 => zm_rc h2 v6 7 ∧ zm_cv K M_X7_fail [.ref v6, .int (nI 7)] h2 fun h4 => zm_gR h4 a0 2 0 fun v7 => zm_rc h4 v7 7 ∧ zm_ci K M_X7_failed [.ref v7] h4 fun v8 h5 => (v8 = 0 → Post (some (.int v2.toInt32)) h5) ∧ (¬ v8 = 0 → Post (some (.int (nI 0))) h5))) : zm_Go E nc ns 0 [(0, .ref a0)] [] h := by
  refine zm_aload_n C rfl 0 rfl dX2_textLength_0 ?_
  refine zm_getR C ff_X2_12 dX2_textLength_1 w (fun v1 w => ?_)
  obtain ⟨wr, w⟩ := w
  refine zm_Vl (As := []) (rest := []) C M_X7_varint sv_X2_83 rfl dX2_textLength_4 rfl (Nat.le_of_ble_eq_true rfl) (by decide) (by decide) (by show nc + 0 ≤ 0; omega) (by show ns + 0 ≤ 0; omega) wr w (fun v2 h1 w => ?_)
  refine zm_lstore_n (L' := [(0, .ref a0), (1, .long v2)]) C rfl (by decide) [1, 0] dX2_textLength_7 rfl ?_
  refine zm_lload_n C rfl 1 rfl dX2_textLength_8 ?_
  refine zm_Si (As := [.long v2]) (rest := []) C M_X2_isLength ss_X2_69 rfl dX2_textLength_9 rfl (Nat.le_of_ble_eq_true rfl) (by decide) (by decide) (by show nc + 0 ≤ 0; omega) (by show ns + 0 ≤ 0; omega) w (fun v3 h2 w => ?_)
  refine zm_if_ne (tgt := 24) C dX2_textLength_12 (by decide) (fun z => ?_) (fun z => ?_)
  · replace w := w.1 z
    refine zm_aload_n C rfl 0 rfl dX2_textLength_24 ?_
    refine zm_getR C ff_X2_12 dX2_textLength_25 w (fun v4 w => ?_)
    obtain ⟨wr, w⟩ := w
    refine zm_Vi (As := []) (rest := []) C M_X7_failed sv_X2_44 rfl dX2_textLength_28 rfl (Nat.le_of_ble_eq_true rfl) (by decide) (by decide) (by show nc + 0 ≤ 0; omega) (by show ns + 0 ≤ 0; omega) wr w (fun v5 h3 w => ?_)
    refine zm_if_eq (tgt := 38) C dX2_textLength_31 (by decide) (fun z => ?_) (fun z => ?_)
    · replace w := w.1 z
      refine zm_lload_n C rfl 1 rfl dX2_textLength_38 ?_
      refine zm_l2i C dX2_textLength_39 ?_
      exact zm_ireturn C Rt (by show nc ≤ 0; omega) (by show ns ≤ 0; omega) rfl dX2_textLength_40 w
    · replace w := w.2 z
      refine zm_iconst (v := nI 0) C (by decide) dX2_textLength_34 ?_
      refine zm_goto (tgt := 40) C dX2_textLength_35 (by decide) ?_
      exact zm_ireturn C Rt (by show nc ≤ 0; omega) (by show ns ≤ 0; omega) rfl dX2_textLength_40 w
  · replace w := w.2 z
    refine zm_aload_n C rfl 0 rfl dX2_textLength_15 ?_
    refine zm_getR C ff_X2_12 dX2_textLength_16 w (fun v6 w => ?_)
    refine zm_bipush (v := nI 7) C (by decide) dX2_textLength_19 ?_
    obtain ⟨wr, w⟩ := w
    refine zm_Vv (As := [.int (nI 7)]) (rest := []) C M_X7_fail sv_X2_73 rfl dX2_textLength_21 rfl (Nat.le_of_ble_eq_true rfl) (by decide) (by decide) (by show nc + 0 ≤ 0; omega) (by show ns + 0 ≤ 0; omega) wr w (fun h4 w => ?_)
    refine zm_aload_n C rfl 0 rfl dX2_textLength_24 ?_
    refine zm_getR C ff_X2_12 dX2_textLength_25 w (fun v7 w => ?_)
    obtain ⟨wr, w⟩ := w
    refine zm_Vi (As := []) (rest := []) C M_X7_failed sv_X2_44 rfl dX2_textLength_28 rfl (Nat.le_of_ble_eq_true rfl) (by decide) (by decide) (by show nc + 0 ≤ 0; omega) (by show ns + 0 ≤ 0; omega) wr w (fun v8 h5 w => ?_)
    refine zm_if_eq (tgt := 38) C dX2_textLength_31 (by decide) (fun z => ?_) (fun z => ?_)
    · replace w := w.1 z
      refine zm_lload_n C rfl 1 rfl dX2_textLength_38 ?_
      refine zm_l2i C dX2_textLength_39 ?_
      exact zm_ireturn C Rt (by show nc ≤ 0; omega) (by show ns ≤ 0; omega) rfl dX2_textLength_40 w
    · replace w := w.2 z
      refine zm_iconst (v := nI 0) C (by decide) dX2_textLength_34 ?_
      refine zm_goto (tgt := 40) C dX2_textLength_35 (by decide) ?_
      exact zm_ireturn C Rt (by show nc ≤ 0; omega) (by show ns ≤ 0; omega) rfl dX2_textLength_40 w
set_option maxRecDepth 20000 in
theorem B_X2_takeCode_0 {E : zm_E} {K : zm_K} {Post : zm_Po} {nc ns : Nat} (C : zm_Cx E K cX2_takeCode RX2 6 121 0 0 6) (Rt : zm_Rt E Post 0 0 none) {a0 : Nat} {a1 : Nat} {i2 : Int32} {h : zm_H} (hnc : nc ≤ 0) (hns : ns ≤ 0) (w : zm_gR h a0 2 0 fun v1 => zm_rc h v1 7 ∧ zm_cl K M_X7_varint [.ref v1] h fun v2 h1 => zm_gR h1 a0 2 0 fun v3 => zm_rc h1 v3 7 ∧ zm_ci K M_X7_holds [.ref v3, .long v2] h1 fun v4 h2 => (¬ v4 = 0 → zm_gR h2 a0 2 0 fun v5 => zm_gI h2 v5 7 2 fun v6 => zm_gR h2 a0 2 0 fun v7 => zm_gR h2 a0 2 0 fun v8 => zm_gI h2 v8 7 1 fun v9 => zm_pf h2 v7 7 2 (.int (v9 + v2.toInt32)) fun h3 => zm_gR h3 a0 2 0 fun v10 => zm_rc h3 a1 1 ∧ zm_cv K M_X1_readFrom [.ref a1, .ref v10] h3 fun h4 => zm_gR h4 a0 2 0 fun v11 => zm_pf h4 v11 7 2 (.int v6) fun h5 => zm_gI h5 a1 1 2 fun v12 => (v12 = i2 → Post none h5) ∧ (¬ v12 = i2 → zm_gR h5 a0 2 0 fun v13 => zm_rc h5 v13 7 ∧ zm_cv K M_X7_fail [.ref v13, .int (nI 4)] h5 fun h6 => Post none h6)) ∧ (v4 = 0 → Post none h2)) : zm_Go E nc ns 0 [(0, .ref a0), (1, .ref a1), (2, .int i2)] [] h := by
  refine zm_aload_n C rfl 0 rfl dX2_takeCode_0 ?_
  refine zm_getR C ff_X2_12 dX2_takeCode_1 w (fun v1 w => ?_)
  obtain ⟨wr, w⟩ := w
  refine zm_Vl (As := []) (rest := []) C M_X7_varint sv_X2_83 rfl dX2_takeCode_4 rfl (Nat.le_of_ble_eq_true rfl) (by decide) (by decide) (by show nc + 0 ≤ 0; omega) (by show ns + 0 ≤ 0; omega) wr w (fun v2 h1 w => ?_)
  refine zm_lstore_n (L' := [(0, .ref a0), (1, .ref a1), (2, .int i2), (3, .long v2)]) C rfl (by decide) [1, 2, 3, 0] dX2_takeCode_7 rfl ?_
  refine zm_aload_n C rfl 0 rfl dX2_takeCode_8 ?_
  refine zm_getR C ff_X2_12 dX2_takeCode_9 w (fun v3 w => ?_)
  refine zm_lload_n C rfl 3 rfl dX2_takeCode_12 ?_
  obtain ⟨wr, w⟩ := w
  refine zm_Vi (As := [.long v2]) (rest := []) C M_X7_holds sv_X2_106 rfl dX2_takeCode_13 rfl (Nat.le_of_ble_eq_true rfl) (by decide) (by decide) (by show nc + 0 ≤ 0; omega) (by show ns + 0 ≤ 0; omega) wr w (fun v4 h2 w => ?_)
  refine zm_if_ne (tgt := 20) C dX2_takeCode_16 (by decide) (fun z => ?_) (fun z => ?_)
  · replace w := w.1 z
    refine zm_aload_n C rfl 0 rfl dX2_takeCode_20 ?_
    refine zm_getR C ff_X2_12 dX2_takeCode_21 w (fun v5 w => ?_)
    refine zm_getI C ff_X2_109 dX2_takeCode_24 w (fun v6 w => ?_)
    refine zm_istore (L' := [(0, .ref a0), (1, .ref a1), (2, .int i2), (3, .long v2), (5, .int v6)]) C (by decide) [1, 2, 3, 4, 0] dX2_takeCode_27 rfl ?_
    refine zm_aload_n C rfl 0 rfl dX2_takeCode_29 ?_
    refine zm_getR C ff_X2_12 dX2_takeCode_30 w (fun v7 w => ?_)
    refine zm_aload_n C rfl 0 rfl dX2_takeCode_33 ?_
    refine zm_getR C ff_X2_12 dX2_takeCode_34 w (fun v8 w => ?_)
    refine zm_getI C ff_X2_112 dX2_takeCode_37 w (fun v9 w => ?_)
    refine zm_lload_n C rfl 3 rfl dX2_takeCode_40 ?_
    refine zm_l2i C dX2_takeCode_41 ?_
    refine zm_iadd C dX2_takeCode_42 ?_
    refine zm_put C ff_X2_109 ft_X7 fp_X2_7_2 rfl rfl dX2_takeCode_43 w (fun h3 w => ?_)
    refine zm_aload_n C rfl 1 rfl dX2_takeCode_46 ?_
    refine zm_aload_n C rfl 0 rfl dX2_takeCode_47 ?_
    refine zm_getR C ff_X2_12 dX2_takeCode_48 w (fun v10 w => ?_)
    obtain ⟨wr, w⟩ := w
    refine zm_Vv (As := [.ref v10]) (rest := []) C M_X1_readFrom sv_X2_115 rfl dX2_takeCode_51 rfl (Nat.le_of_ble_eq_true rfl) (by decide) (by decide) (by show nc + 0 ≤ 0; omega) (by show ns + 0 ≤ 0; omega) wr w (fun h4 w => ?_)
    refine zm_aload_n C rfl 0 rfl dX2_takeCode_54 ?_
    refine zm_getR C ff_X2_12 dX2_takeCode_55 w (fun v11 w => ?_)
    refine zm_iload C 4 rfl dX2_takeCode_58 ?_
    refine zm_put C ff_X2_109 ft_X7 fp_X2_7_2 rfl rfl dX2_takeCode_60 w (fun h5 w => ?_)
    refine zm_aload_n C rfl 1 rfl dX2_takeCode_63 ?_
    refine zm_getI C ff_X2_118 dX2_takeCode_64 w (fun v12 w => ?_)
    refine zm_iload_n C rfl 2 rfl dX2_takeCode_67 ?_
    refine zm_icmp_eq (tgt := 79) C dX2_takeCode_68 (by decide) (fun z => ?_) (fun z => ?_)
    · replace w := w.1 z
      exact zm_return C Rt (by show nc ≤ 0; omega) (by show ns ≤ 0; omega) dX2_takeCode_79 w
    · replace w := w.2 z
      refine zm_aload_n C rfl 0 rfl dX2_takeCode_71 ?_
      refine zm_getR C ff_X2_12 dX2_takeCode_72 w (fun v13 w => ?_)
      refine zm_iconst (v := nI 4) C (by decide) dX2_takeCode_75 ?_
      obtain ⟨wr, w⟩ := w
      refine zm_Vv (As := [.int (nI 4)]) (rest := []) C M_X7_fail sv_X2_73 rfl dX2_takeCode_76 rfl (Nat.le_of_ble_eq_true rfl) (by decide) (by decide) (by show nc + 0 ≤ 0; omega) (by show ns + 0 ≤ 0; omega) wr w (fun h6 w => ?_)
      exact zm_return C Rt (by show nc ≤ 0; omega) (by show ns ≤ 0; omega) dX2_takeCode_79 w
  · replace w := w.2 z
    exact zm_return C Rt (by show nc ≤ 0; omega) (by show ns ≤ 0; omega) dX2_takeCode_19 w
set_option maxRecDepth 20000 in
theorem B_X2_takeText_0 {E : zm_E} {K : zm_K} {Post : zm_Po} {nc ns : Nat} (C : zm_Cx E K cX2_takeText RX2 4 67 0 0 4) (Rt : zm_Rt E Post 0 0 none) {a0 : Nat} {a1 : Nat} {i2 : Int32} {i3 : Int32} {h : zm_H} (hnc : nc ≤ 0) (hns : ns ≤ 0) (w : zm_rc h a1 5 ∧ zm_ci K M_X5_holdsMore [.ref a1, .int (i2 + i3)] h fun v1 h1 => (¬ v1 = 0 → zm_gR h1 a0 2 0 fun v2 => zm_rc h1 v2 7 ∧ zm_ci K M_X7_holds [.ref v2, .long i3.toInt64] h1 fun v3 h2 => (¬ v3 = 0 → zm_gR h2 a0 2 0 fun v4 => zm_gR h2 v4 7 0 fun v5 => zm_gR h2 a0 2 0 fun v6 => zm_gI h2 v6 7 1 fun v7 => zm_rc h2 a1 5 ∧ zm_cv K M_X5_append [.ref a1, .int i2, .ref v5, .int v7, .int i3] h2 fun h3 => zm_gR h3 a0 2 0 fun v8 => zm_gI h3 v8 7 1 fun v9 => zm_pf h3 v8 7 1 (.int (v9 + i3)) fun h4 => Post none h4) ∧ (v3 = 0 → Post none h2)) ∧ (v1 = 0 → zm_gR h1 a0 2 0 fun v10 => zm_rc h1 v10 7 ∧ zm_cv K M_X7_fail [.ref v10, .int (nI 7)] h1 fun h5 => zm_gR h5 a0 2 0 fun v11 => zm_rc h5 v11 7 ∧ zm_ci K M_X7_holds [.ref v11, .long i3.toInt64] h5 fun v12 h6 => (¬ v12 = 0 → zm_gR h6 a0 2 0 fun v13 => zm_gR h6 v13 7 0 fun v14 => zm_gR h6 a0 2 0 fun v15 => zm_gI h6 v15 7 1 fun v16 => zm_rc h6 a1 5 ∧ zm_cv K M_X5_append [.ref a1, .int i2, .ref v14, .int v16, .int i3] h6 fun h7 => zm_gR h7 a0 2 0 fun v17 => zm_gI h7 v17 7 1 fun v18 => zm_pf h7 v17 7 1 (.int (v18 + i3)) fun h8 => Post none h8) ∧ (v12 = 0 → Post none h6))) : zm_Go E nc ns 0 [(0, .ref a0), (1, .ref a1), (2, .int i2), (3, .int i3)] [] h := by
  refine zm_aload_n C rfl 1 rfl dX2_takeText_0 ?_
  refine zm_iload_n C rfl 2 rfl dX2_takeText_1 ?_
  refine zm_iload_n C rfl 3 rfl dX2_takeText_2 ?_
  refine zm_iadd C dX2_takeText_3 ?_
  obtain ⟨wr, w⟩ := w
  refine zm_Vi (As := [.int (i2 + i3)]) (rest := []) C M_X5_holdsMore sv_X2_121 rfl dX2_takeText_4 rfl (Nat.le_of_ble_eq_true rfl) (by decide) (by decide) (by show nc + 0 ≤ 0; omega) (by show ns + 0 ≤ 0; omega) wr w (fun v1 h1 w => ?_)
  refine zm_if_ne (tgt := 19) C dX2_takeText_7 (by decide) (fun z => ?_) (fun z => ?_)
  · replace w := w.1 z
    refine zm_aload_n C rfl 0 rfl dX2_takeText_19 ?_
    refine zm_getR C ff_X2_12 dX2_takeText_20 w (fun v2 w => ?_)
    refine zm_iload_n C rfl 3 rfl dX2_takeText_23 ?_
    refine zm_i2l C dX2_takeText_24 ?_
    obtain ⟨wr, w⟩ := w
    refine zm_Vi (As := [.long i3.toInt64]) (rest := []) C M_X7_holds sv_X2_106 rfl dX2_takeText_25 rfl (Nat.le_of_ble_eq_true rfl) (by decide) (by decide) (by show nc + 0 ≤ 0; omega) (by show ns + 0 ≤ 0; omega) wr w (fun v3 h2 w => ?_)
    refine zm_if_ne (tgt := 32) C dX2_takeText_28 (by decide) (fun z => ?_) (fun z => ?_)
    · replace w := w.1 z
      refine zm_aload_n C rfl 1 rfl dX2_takeText_32 ?_
      refine zm_iload_n C rfl 2 rfl dX2_takeText_33 ?_
      refine zm_aload_n C rfl 0 rfl dX2_takeText_34 ?_
      refine zm_getR C ff_X2_12 dX2_takeText_35 w (fun v4 w => ?_)
      refine zm_getR C ff_X2_125 dX2_takeText_38 w (fun v5 w => ?_)
      refine zm_aload_n C rfl 0 rfl dX2_takeText_41 ?_
      refine zm_getR C ff_X2_12 dX2_takeText_42 w (fun v6 w => ?_)
      refine zm_getI C ff_X2_112 dX2_takeText_45 w (fun v7 w => ?_)
      refine zm_iload_n C rfl 3 rfl dX2_takeText_48 ?_
      obtain ⟨wr, w⟩ := w
      refine zm_Vv (As := [.int i2, .ref v5, .int v7, .int i3]) (rest := []) C M_X5_append sv_X2_129 rfl dX2_takeText_49 rfl (Nat.le_of_ble_eq_true rfl) (by decide) (by decide) (by show nc + 0 ≤ 0; omega) (by show ns + 0 ≤ 0; omega) wr w (fun h3 w => ?_)
      refine zm_aload_n C rfl 0 rfl dX2_takeText_52 ?_
      refine zm_getR C ff_X2_12 dX2_takeText_53 w (fun v8 w => ?_)
      refine zm_dup C rfl dX2_takeText_56 ?_
      refine zm_getI C ff_X2_112 dX2_takeText_57 w (fun v9 w => ?_)
      refine zm_iload_n C rfl 3 rfl dX2_takeText_60 ?_
      refine zm_iadd C dX2_takeText_61 ?_
      refine zm_put C ff_X2_112 ft_X7 fp_X2_7_1 rfl rfl dX2_takeText_62 w (fun h4 w => ?_)
      exact zm_return C Rt (by show nc ≤ 0; omega) (by show ns ≤ 0; omega) dX2_takeText_65 w
    · replace w := w.2 z
      exact zm_return C Rt (by show nc ≤ 0; omega) (by show ns ≤ 0; omega) dX2_takeText_31 w
  · replace w := w.2 z
    refine zm_aload_n C rfl 0 rfl dX2_takeText_10 ?_
    refine zm_getR C ff_X2_12 dX2_takeText_11 w (fun v10 w => ?_)
    refine zm_bipush (v := nI 7) C (by decide) dX2_takeText_14 ?_
    obtain ⟨wr, w⟩ := w
    refine zm_Vv (As := [.int (nI 7)]) (rest := []) C M_X7_fail sv_X2_73 rfl dX2_takeText_16 rfl (Nat.le_of_ble_eq_true rfl) (by decide) (by decide) (by show nc + 0 ≤ 0; omega) (by show ns + 0 ≤ 0; omega) wr w (fun h5 w => ?_)
    refine zm_aload_n C rfl 0 rfl dX2_takeText_19 ?_
    refine zm_getR C ff_X2_12 dX2_takeText_20 w (fun v11 w => ?_)
    refine zm_iload_n C rfl 3 rfl dX2_takeText_23 ?_
    refine zm_i2l C dX2_takeText_24 ?_
    obtain ⟨wr, w⟩ := w
    refine zm_Vi (As := [.long i3.toInt64]) (rest := []) C M_X7_holds sv_X2_106 rfl dX2_takeText_25 rfl (Nat.le_of_ble_eq_true rfl) (by decide) (by decide) (by show nc + 0 ≤ 0; omega) (by show ns + 0 ≤ 0; omega) wr w (fun v12 h6 w => ?_)
    refine zm_if_ne (tgt := 32) C dX2_takeText_28 (by decide) (fun z => ?_) (fun z => ?_)
    · replace w := w.1 z
      refine zm_aload_n C rfl 1 rfl dX2_takeText_32 ?_
      refine zm_iload_n C rfl 2 rfl dX2_takeText_33 ?_
      refine zm_aload_n C rfl 0 rfl dX2_takeText_34 ?_
      refine zm_getR C ff_X2_12 dX2_takeText_35 w (fun v13 w => ?_)
      refine zm_getR C ff_X2_125 dX2_takeText_38 w (fun v14 w => ?_)
      refine zm_aload_n C rfl 0 rfl dX2_takeText_41 ?_
      refine zm_getR C ff_X2_12 dX2_takeText_42 w (fun v15 w => ?_)
      refine zm_getI C ff_X2_112 dX2_takeText_45 w (fun v16 w => ?_)
      refine zm_iload_n C rfl 3 rfl dX2_takeText_48 ?_
      obtain ⟨wr, w⟩ := w
      refine zm_Vv (As := [.int i2, .ref v14, .int v16, .int i3]) (rest := []) C M_X5_append sv_X2_129 rfl dX2_takeText_49 rfl (Nat.le_of_ble_eq_true rfl) (by decide) (by decide) (by show nc + 0 ≤ 0; omega) (by show ns + 0 ≤ 0; omega) wr w (fun h7 w => ?_)
      refine zm_aload_n C rfl 0 rfl dX2_takeText_52 ?_
      refine zm_getR C ff_X2_12 dX2_takeText_53 w (fun v17 w => ?_)
      refine zm_dup C rfl dX2_takeText_56 ?_
      refine zm_getI C ff_X2_112 dX2_takeText_57 w (fun v18 w => ?_)
      refine zm_iload_n C rfl 3 rfl dX2_takeText_60 ?_
      refine zm_iadd C dX2_takeText_61 ?_
      refine zm_put C ff_X2_112 ft_X7 fp_X2_7_1 rfl rfl dX2_takeText_62 w (fun h8 w => ?_)
      exact zm_return C Rt (by show nc ≤ 0; omega) (by show ns ≤ 0; omega) dX2_takeText_65 w
    · replace w := w.2 z
      exact zm_return C Rt (by show nc ≤ 0; omega) (by show ns ≤ 0; omega) dX2_takeText_31 w
set_option maxRecDepth 20000 in
theorem B_X2_enterText_0 {E : zm_E} {K : zm_K} {Post : zm_Po} {nc ns : Nat} (C : zm_Cx E K cX2_enterText RX2 5 90 0 0 3) (Rt : zm_Rt E Post 0 0 none) {a0 : Nat} {i1 : Int32} {h : zm_H} (hnc : nc ≤ 0) (hns : ns ≤ 0) (w : zm_rc h a0 2 ∧ zm_ci K M_X2_textLength [.ref a0] h fun v1 h1 => zm_gR h1 a0 2 0 fun v2 => zm_rc h1 v2 7 ∧ zm_ci K M_X7_holds [.ref v2, .long v1.toInt64] h1 fun v3 h2 => (¬ v3 = 0 → zm_gR h2 a0 2 4 fun v4 => zm_gR h2 a0 2 0 fun v5 => zm_gI h2 v5 7 1 fun v6 => zm_sI K h2 v4 i1 v6 fun h3 => zm_gR h3 a0 2 5 fun v7 => zm_sI K h3 v7 i1 v1 fun h4 => zm_gR h4 a0 2 0 fun v8 => zm_gI h4 v8 7 1 fun v9 => zm_pf h4 v8 7 1 (.int (v9 + v1)) fun h5 => Post none h5) ∧ (v3 = 0 → Post none h2)) : zm_Go E nc ns 0 [(0, .ref a0), (1, .int i1)] [] h := by
  refine zm_aload_n C rfl 0 rfl dX2_enterText_0 ?_
  obtain ⟨wr, w⟩ := w
  refine zm_Vi (As := []) (rest := []) C M_X2_textLength sv_X2_48 rfl dX2_enterText_1 rfl (Nat.le_of_ble_eq_true rfl) (by decide) (by decide) (by show nc + 0 ≤ 0; omega) (by show ns + 0 ≤ 0; omega) wr w (fun v1 h1 w => ?_)
  refine zm_istore_n (L' := [(0, .ref a0), (1, .int i1), (2, .int v1)]) C rfl (by decide) [1, 2, 0] dX2_enterText_4 rfl ?_
  refine zm_aload_n C rfl 0 rfl dX2_enterText_5 ?_
  refine zm_getR C ff_X2_12 dX2_enterText_6 w (fun v2 w => ?_)
  refine zm_iload_n C rfl 2 rfl dX2_enterText_9 ?_
  refine zm_i2l C dX2_enterText_10 ?_
  obtain ⟨wr, w⟩ := w
  refine zm_Vi (As := [.long v1.toInt64]) (rest := []) C M_X7_holds sv_X2_106 rfl dX2_enterText_11 rfl (Nat.le_of_ble_eq_true rfl) (by decide) (by decide) (by show nc + 0 ≤ 0; omega) (by show ns + 0 ≤ 0; omega) wr w (fun v3 h2 w => ?_)
  refine zm_if_ne (tgt := 18) C dX2_enterText_14 (by decide) (fun z => ?_) (fun z => ?_)
  · replace w := w.1 z
    refine zm_aload_n C rfl 0 rfl dX2_enterText_18 ?_
    refine zm_getR C ff_X2_18 dX2_enterText_19 w (fun v4 w => ?_)
    refine zm_iload_n C rfl 1 rfl dX2_enterText_22 ?_
    refine zm_aload_n C rfl 0 rfl dX2_enterText_23 ?_
    refine zm_getR C ff_X2_12 dX2_enterText_24 w (fun v5 w => ?_)
    refine zm_getI C ff_X2_112 dX2_enterText_27 w (fun v6 w => ?_)
    refine zm_stI C dX2_enterText_30 w (fun h3 w => ?_)
    refine zm_aload_n C rfl 0 rfl dX2_enterText_31 ?_
    refine zm_getR C ff_X2_22 dX2_enterText_32 w (fun v7 w => ?_)
    refine zm_iload_n C rfl 1 rfl dX2_enterText_35 ?_
    refine zm_iload_n C rfl 2 rfl dX2_enterText_36 ?_
    refine zm_stI C dX2_enterText_37 w (fun h4 w => ?_)
    refine zm_aload_n C rfl 0 rfl dX2_enterText_38 ?_
    refine zm_getR C ff_X2_12 dX2_enterText_39 w (fun v8 w => ?_)
    refine zm_dup C rfl dX2_enterText_42 ?_
    refine zm_getI C ff_X2_112 dX2_enterText_43 w (fun v9 w => ?_)
    refine zm_iload_n C rfl 2 rfl dX2_enterText_46 ?_
    refine zm_iadd C dX2_enterText_47 ?_
    refine zm_put C ff_X2_112 ft_X7 fp_X2_7_1 rfl rfl dX2_enterText_48 w (fun h5 w => ?_)
    exact zm_return C Rt (by show nc ≤ 0; omega) (by show ns ≤ 0; omega) dX2_enterText_51 w
  · replace w := w.2 z
    exact zm_return C Rt (by show nc ≤ 0; omega) (by show ns ≤ 0; omega) dX2_enterText_17 w
set_option maxRecDepth 20000 in
theorem B_X2_copyText_0 {E : zm_E} {K : zm_K} {Post : zm_Po} {nc ns : Nat} (C : zm_Cx E K cX2_copyText RX2 4 67 0 0 7) (Rt : zm_Rt E Post 0 0 none) {a0 : Nat} {a1 : Nat} {l2 : Int64} {l4 : Int64} {h : zm_H} (hnc : nc ≤ 0) (hns : ns ≤ 0) (w : ((lg_cmp l2 (lN 0)) < 0 → zm_gR h a0 2 0 fun v1 => zm_rc h v1 7 ∧ zm_cv K M_X7_fail [.ref v1, .int (nI 7)] h fun h1 => Post none h1) ∧ (¬ (lg_cmp l2 (lN 0)) < 0 → ((lg_cmp l2 l4) < 0 → zm_gR h a0 2 5 fun v2 => zm_ld K 1 h v2 l2.toInt32 fun v3 => zm_rc h a1 5 ∧ zm_ci K M_X5_holdsMore [.ref a1, .int v3] h fun v4 h2 => (¬ v4 = 0 → zm_gR h2 a0 2 0 fun v5 => zm_gR h2 v5 7 0 fun v6 => zm_gR h2 a0 2 4 fun v7 => zm_ld K 1 h2 v7 l2.toInt32 fun v8 => zm_gR h2 a0 2 5 fun v9 => zm_ld K 1 h2 v9 l2.toInt32 fun v10 => zm_rc h2 a1 5 ∧ zm_cv K M_X5_append [.ref a1, .int (nI 0), .ref v6, .int v8, .int v10] h2 fun h3 => Post none h3) ∧ (v4 = 0 → zm_gR h2 a0 2 0 fun v11 => zm_rc h2 v11 7 ∧ zm_cv K M_X7_fail [.ref v11, .int (nI 7)] h2 fun h4 => Post none h4)) ∧ (¬ (lg_cmp l2 l4) < 0 → zm_gR h a0 2 0 fun v12 => zm_rc h v12 7 ∧ zm_cv K M_X7_fail [.ref v12, .int (nI 7)] h fun h5 => Post none h5))) : zm_Go E nc ns 0 [(0, .ref a0), (1, .ref a1), (2, .long l2), (4, .long l4)] [] h := by
  refine zm_lload_n C rfl 2 rfl dX2_copyText_0 ?_
  refine zm_lconst (v := lN 0) C (by decide) dX2_copyText_1 ?_
  refine zm_lcmp C dX2_copyText_2 ?_
  refine zm_if_lt (tgt := 13) C dX2_copyText_3 (by decide) (fun z => ?_) (fun z => ?_)
  · replace w := w.1 z
    refine zm_aload_n C rfl 0 rfl dX2_copyText_13 ?_
    refine zm_getR C ff_X2_12 dX2_copyText_14 w (fun v1 w => ?_)
    refine zm_bipush (v := nI 7) C (by decide) dX2_copyText_17 ?_
    obtain ⟨wr, w⟩ := w
    refine zm_Vv (As := [.int (nI 7)]) (rest := []) C M_X7_fail sv_X2_73 rfl dX2_copyText_19 rfl (Nat.le_of_ble_eq_true rfl) (by decide) (by decide) (by show nc + 0 ≤ 0; omega) (by show ns + 0 ≤ 0; omega) wr w (fun h1 w => ?_)
    exact zm_return C Rt (by show nc ≤ 0; omega) (by show ns ≤ 0; omega) dX2_copyText_22 w
  · replace w := w.2 z
    refine zm_lload_n C rfl 2 rfl dX2_copyText_6 ?_
    refine zm_lload C 3 rfl dX2_copyText_7 ?_
    refine zm_lcmp C dX2_copyText_9 ?_
    refine zm_if_lt (tgt := 23) C dX2_copyText_10 (by decide) (fun z => ?_) (fun z => ?_)
    · replace w := w.1 z
      refine zm_lload_n C rfl 2 rfl dX2_copyText_23 ?_
      refine zm_l2i C dX2_copyText_24 ?_
      refine zm_istore (L' := [(0, .ref a0), (1, .ref a1), (2, .long l2), (4, .long l4), (6, .int l2.toInt32)]) C (by decide) [1, 2, 3, 4, 0] dX2_copyText_25 rfl ?_
      refine zm_aload_n C rfl 1 rfl dX2_copyText_27 ?_
      refine zm_aload_n C rfl 0 rfl dX2_copyText_28 ?_
      refine zm_getR C ff_X2_22 dX2_copyText_29 w (fun v2 w => ?_)
      refine zm_iload C 4 rfl dX2_copyText_32 ?_
      refine zm_ldI C dX2_copyText_34 w (fun v3 w => ?_)
      obtain ⟨wr, w⟩ := w
      refine zm_Vi (As := [.int v3]) (rest := []) C M_X5_holdsMore sv_X2_121 rfl dX2_copyText_35 rfl (Nat.le_of_ble_eq_true rfl) (by decide) (by decide) (by show nc + 0 ≤ 0; omega) (by show ns + 0 ≤ 0; omega) wr w (fun v4 h2 w => ?_)
      refine zm_if_ne (tgt := 51) C dX2_copyText_38 (by decide) (fun z => ?_) (fun z => ?_)
      · replace w := w.1 z
        refine zm_aload_n C rfl 1 rfl dX2_copyText_51 ?_
        refine zm_iconst (v := nI 0) C (by decide) dX2_copyText_52 ?_
        refine zm_aload_n C rfl 0 rfl dX2_copyText_53 ?_
        refine zm_getR C ff_X2_12 dX2_copyText_54 w (fun v5 w => ?_)
        refine zm_getR C ff_X2_125 dX2_copyText_57 w (fun v6 w => ?_)
        refine zm_aload_n C rfl 0 rfl dX2_copyText_60 ?_
        refine zm_getR C ff_X2_18 dX2_copyText_61 w (fun v7 w => ?_)
        refine zm_iload C 4 rfl dX2_copyText_64 ?_
        refine zm_ldI C dX2_copyText_66 w (fun v8 w => ?_)
        refine zm_aload_n C rfl 0 rfl dX2_copyText_67 ?_
        refine zm_getR C ff_X2_22 dX2_copyText_68 w (fun v9 w => ?_)
        refine zm_iload C 4 rfl dX2_copyText_71 ?_
        refine zm_ldI C dX2_copyText_73 w (fun v10 w => ?_)
        obtain ⟨wr, w⟩ := w
        refine zm_Vv (As := [.int (nI 0), .ref v6, .int v8, .int v10]) (rest := []) C M_X5_append sv_X2_129 rfl dX2_copyText_74 rfl (Nat.le_of_ble_eq_true rfl) (by decide) (by decide) (by show nc + 0 ≤ 0; omega) (by show ns + 0 ≤ 0; omega) wr w (fun h3 w => ?_)
        exact zm_return C Rt (by show nc ≤ 0; omega) (by show ns ≤ 0; omega) dX2_copyText_77 w
      · replace w := w.2 z
        refine zm_aload_n C rfl 0 rfl dX2_copyText_41 ?_
        refine zm_getR C ff_X2_12 dX2_copyText_42 w (fun v11 w => ?_)
        refine zm_bipush (v := nI 7) C (by decide) dX2_copyText_45 ?_
        obtain ⟨wr, w⟩ := w
        refine zm_Vv (As := [.int (nI 7)]) (rest := []) C M_X7_fail sv_X2_73 rfl dX2_copyText_47 rfl (Nat.le_of_ble_eq_true rfl) (by decide) (by decide) (by show nc + 0 ≤ 0; omega) (by show ns + 0 ≤ 0; omega) wr w (fun h4 w => ?_)
        exact zm_return C Rt (by show nc ≤ 0; omega) (by show ns ≤ 0; omega) dX2_copyText_50 w
    · replace w := w.2 z
      refine zm_aload_n C rfl 0 rfl dX2_copyText_13 ?_
      refine zm_getR C ff_X2_12 dX2_copyText_14 w (fun v12 w => ?_)
      refine zm_bipush (v := nI 7) C (by decide) dX2_copyText_17 ?_
      obtain ⟨wr, w⟩ := w
      refine zm_Vv (As := [.int (nI 7)]) (rest := []) C M_X7_fail sv_X2_73 rfl dX2_copyText_19 rfl (Nat.le_of_ble_eq_true rfl) (by decide) (by decide) (by show nc + 0 ≤ 0; omega) (by show ns + 0 ≤ 0; omega) wr w (fun h5 w => ?_)
      exact zm_return C Rt (by show nc ≤ 0; omega) (by show ns ≤ 0; omega) dX2_copyText_22 w
set_option maxRecDepth 20000 in
theorem B_X3_init_0 {E : zm_E} {K : zm_K} {Post : zm_Po} {nc ns : Nat} (C : zm_Cx E K cX3_init RX3 2 47 5 27053 4) (Rt : zm_Rt E Post 5 27053 none) (hin : zm_in E) {a0 : Nat} {a1 : Nat} {a2 : Nat} {a3 : Nat} {h : zm_H} (hnc : nc + 1 + 2 + 1 + 1 ≤ 5) (hns : ns + 3 + 3048 + 2 + 24000 ≤ 27053) (w : ∀ v1, h v1 = none → zm_cv K M_X4_init [.ref v1] (zm_set h v1 (.inr (4, [.null, .null, .int 0]))) fun h1 => zm_pf h1 a0 3 3 (.ref v1) fun h2 => ∀ v2, h2 v2 = none → zm_cv K M_X0_init [.ref v2, .int (nI 2000)] (zm_set h2 v2 (.inr (0, [.null, .int 0]))) fun h3 => zm_pf h3 a0 3 4 (.ref v2) fun h4 => zm_pf h4 a0 3 0 (.ref a1) fun h5 => zm_pf h5 a0 3 1 (.ref a2) fun h6 => zm_pf h6 a0 3 2 (.ref a3) fun h7 => Post none h7) : zm_Go E nc ns 0 [(0, .ref a0), (1, .ref a1), (2, .ref a2), (3, .ref a3)] [] h := by
  refine zm_aload_n C rfl 0 rfl dX3_init_0 ?_
  refine zm_objInit C (zm_inG (by decide +kernel) rfl) (zm_inG (by decide +kernel) rfl) zi_objInit (by decide) (by decide) (Nat.le_of_ble_eq_true rfl) dX3_init_1 ?_
  refine zm_aload_n C rfl 0 rfl dX3_init_4 ?_
  refine zm_newo C fn_X3_9 dX3_init_5 (by show nc + 1 ≤ 5; omega) (by show ns + 3 ≤ 27053; omega) (fun v1 hq => ?_)
  replace w := w v1 hq
  refine zm_dup C rfl dX3_init_8 ?_
  refine zm_Nv (As := []) (rest := [.ref v1, .ref a0]) C M_X4_init sn_X3_11 rfl dX3_init_9 rfl (Nat.le_of_ble_eq_true rfl) (by decide) (by decide) (by show nc + 1 + 2 ≤ 5; omega) (by show ns + 3 + 3048 ≤ 27053; omega) w (fun h1 w => ?_)
  refine zm_putQ C hin ff_X3_12 ft_X3 fp_X3_3_3 rfl rfl dX3_init_12 w (fun h2 w => ?_)
  refine zm_aload_n C rfl 0 rfl dX3_init_15 ?_
  refine zm_newo C fn_X3_18 dX3_init_16 (by show nc + 1 + 2 + 1 ≤ 5; omega) (by show ns + 3 + 3048 + 2 ≤ 27053; omega) (fun v2 hq => ?_)
  replace w := w v2 hq
  refine zm_dup C rfl dX3_init_19 ?_
  refine zm_sipush (v := nI 2000) C (by decide) dX3_init_20 ?_
  refine zm_Iv (As := [.int (nI 2000)]) (rest := [.ref v2, .ref a0]) C M_X0_init si_X3_20 rfl dX3_init_23 rfl (Nat.le_of_ble_eq_true rfl) (by decide) (by decide) (by show nc + 1 + 2 + 1 + 1 ≤ 5; omega) (by show ns + 3 + 3048 + 2 + 24000 ≤ 27053; omega) w (fun h3 w => ?_)
  refine zm_putQ C hin ff_X3_23 ft_X3 fp_X3_3_4 rfl rfl dX3_init_26 w (fun h4 w => ?_)
  refine zm_aload_n C rfl 0 rfl dX3_init_29 ?_
  refine zm_aload_n C rfl 1 rfl dX3_init_30 ?_
  refine zm_putQ C hin ff_X3_27 ft_X3 fp_X3_3_0 rfl rfl dX3_init_31 w (fun h5 w => ?_)
  refine zm_aload_n C rfl 0 rfl dX3_init_34 ?_
  refine zm_aload_n C rfl 2 rfl dX3_init_35 ?_
  refine zm_putQ C hin ff_X3_31 ft_X3 fp_X3_3_1 rfl rfl dX3_init_36 w (fun h6 w => ?_)
  refine zm_aload_n C rfl 0 rfl dX3_init_39 ?_
  refine zm_aload_n C rfl 3 rfl dX3_init_40 ?_
  refine zm_putQ C hin ff_X3_34 ft_X3 fp_X3_3_2 rfl rfl dX3_init_41 w (fun h7 w => ?_)
  exact zm_return C Rt (by show nc + 1 + 2 + 1 + 1 ≤ 5; omega) (by show ns + 3 + 3048 + 2 + 24000 ≤ 27053; omega) dX3_init_44 w
set_option maxRecDepth 20000 in
theorem B_X3_plain_0 {E : zm_E} {K : zm_K} {Post : zm_Po} {nc ns : Nat} (C : zm_Cx E K cX3_plain RX3 4 72 0 0 4) (Rt : zm_Rt E Post 0 0 none) {a0 : Nat} {a1 : Nat} {a2 : Nat} {h : zm_H} (w : zm_Go E nc ns 2 [(0, .ref a0), (1, .ref a1), (2, .ref a2), (3, .int (nI 0))] [] h) : zm_Go E nc ns 0 [(0, .ref a0), (1, .ref a1), (2, .ref a2)] [] h := by
  refine zm_iconst (v := nI 0) C (by decide) dX3_plain_0 ?_
  refine zm_istore_n (L' := [(0, .ref a0), (1, .ref a1), (2, .ref a2), (3, .int (nI 0))]) C rfl (by decide) [1, 2, 3, 0] dX3_plain_1 rfl ?_
  exact w
set_option maxRecDepth 20000 in
theorem B_X3_plain_2 {E : zm_E} {K : zm_K} {Post : zm_Po} {nc ns : Nat} (C : zm_Cx E K cX3_plain RX3 4 72 0 0 4) (Rt : zm_Rt E Post 0 0 none) {a0 : Nat} {a1 : Nat} {a2 : Nat} {i3 : Int32} {h : zm_H} (hnc : nc ≤ 0) (hns : ns ≤ 0) (w : zm_gI h a1 5 2 fun v1 => (v1 ≤ i3 → Post none h) ∧ (¬ v1 ≤ i3 → zm_rc h a0 3 ∧ zm_cv K M_X3_putText [.ref a0, .ref a1, .int i3, .ref a2] h fun h1 => zm_Go E nc ns 2 [(0, .ref a0), (1, .ref a1), (2, .ref a2), (3, .int (i3 + (nI 1)))] [] h1)) : zm_Go E nc ns 2 [(0, .ref a0), (1, .ref a1), (2, .ref a2), (3, .int i3)] [] h := by
  refine zm_iload_n C rfl 3 rfl dX3_plain_2 ?_
  refine zm_aload_n C rfl 1 rfl dX3_plain_3 ?_
  refine zm_getI C ff_X3_38 dX3_plain_4 w (fun v1 w => ?_)
  refine zm_icmp_ge (tgt := 23) C dX3_plain_7 (by decide) (fun z => ?_) (fun z => ?_)
  · replace w := w.1 z
    exact zm_return C Rt (by show nc ≤ 0; omega) (by show ns ≤ 0; omega) dX3_plain_23 w
  · replace w := w.2 z
    refine zm_aload_n C rfl 0 rfl dX3_plain_10 ?_
    refine zm_aload_n C rfl 1 rfl dX3_plain_11 ?_
    refine zm_iload_n C rfl 3 rfl dX3_plain_12 ?_
    refine zm_aload_n C rfl 2 rfl dX3_plain_13 ?_
    obtain ⟨wr, w⟩ := w
    refine zm_Vv (As := [.ref a1, .int i3, .ref a2]) (rest := []) C M_X3_putText sv_X3_44 rfl dX3_plain_14 rfl (Nat.le_of_ble_eq_true rfl) (by decide) (by decide) (by show nc + 0 ≤ 0; omega) (by show ns + 0 ≤ 0; omega) wr w (fun h1 w => ?_)
    refine zm_iinc (L' := [(0, .ref a0), (1, .ref a1), (2, .ref a2), (3, .int (i3 + (nI 1)))]) C (by decide) 3 [1, 2, 3, 0] dX3_plain_17 rfl rfl rfl ?_
    refine zm_goto (tgt := 2) C dX3_plain_20 (by decide) ?_
    exact w
set_option maxRecDepth 20000 in
theorem B_X3_lengths_0 {E : zm_E} {K : zm_K} {Post : zm_Po} {nc ns : Nat} (C : zm_Cx E K cX3_lengths RX3 6 131 0 0 4) (Rt : zm_Rt E Post 0 0 none) {a0 : Nat} {a1 : Nat} {a2 : Nat} {h : zm_H} (w : zm_gR h a0 3 0 fun v1 => zm_gI h a1 5 2 fun v2 => zm_pf h v1 1 2 (.int v2) fun h1 => zm_Go E nc ns 13 [(0, .ref a0), (1, .ref a1), (2, .ref a2), (3, .int (nI 0))] [] h1) : zm_Go E nc ns 0 [(0, .ref a0), (1, .ref a1), (2, .ref a2)] [] h := by
  refine zm_aload_n C rfl 0 rfl dX3_lengths_0 ?_
  refine zm_getR C ff_X3_27 dX3_lengths_1 w (fun v1 w => ?_)
  refine zm_aload_n C rfl 1 rfl dX3_lengths_4 ?_
  refine zm_getI C ff_X3_38 dX3_lengths_5 w (fun v2 w => ?_)
  refine zm_put C ff_X3_48 ft_X1 fp_X3_1_2 rfl rfl dX3_lengths_8 w (fun h1 w => ?_)
  refine zm_iconst (v := nI 0) C (by decide) dX3_lengths_11 ?_
  refine zm_istore_n (L' := [(0, .ref a0), (1, .ref a1), (2, .ref a2), (3, .int (nI 0))]) C rfl (by decide) [1, 2, 3, 0] dX3_lengths_12 rfl ?_
  exact w
set_option maxRecDepth 20000 in
theorem B_X3_lengths_13 {E : zm_E} {K : zm_K} {Post : zm_Po} {nc ns : Nat} (C : zm_Cx E K cX3_lengths RX3 6 131 0 0 4) (Rt : zm_Rt E Post 0 0 none) {a0 : Nat} {a1 : Nat} {a2 : Nat} {i3 : Int32} {h : zm_H} (hnc : nc ≤ 0) (hns : ns ≤ 0) (w : zm_gI h a1 5 2 fun v1 => (v1 ≤ i3 → zm_gR h a0 3 0 fun v2 => zm_rc h a0 3 ∧ zm_cv K M_X3_putCode [.ref a0, .ref v2, .ref a2] h fun h1 => zm_gR h1 a1 5 0 fun v3 => zm_rc h1 a1 5 ∧ zm_ci K M_X5_total [.ref a1] h1 fun v4 h2 => zm_rc h2 a2 0 ∧ zm_cv K M_X0_putAll [.ref a2, .ref v3, .int (nI 0), .int v4] h2 fun h3 => Post none h3) ∧ (¬ v1 ≤ i3 → zm_gR h a0 3 0 fun v5 => zm_gR h v5 1 0 fun v6 => zm_rc h a1 5 ∧ zm_ci K M_X5_lengthOf [.ref a1, .int i3] h fun v7 h4 => zm_sL K h4 v6 i3 v7.toInt64 fun h5 => zm_Go E nc ns 13 [(0, .ref a0), (1, .ref a1), (2, .ref a2), (3, .int (i3 + (nI 1)))] [] h5)) : zm_Go E nc ns 13 [(0, .ref a0), (1, .ref a1), (2, .ref a2), (3, .int i3)] [] h := by
  refine zm_iload_n C rfl 3 rfl dX3_lengths_13 ?_
  refine zm_aload_n C rfl 1 rfl dX3_lengths_14 ?_
  refine zm_getI C ff_X3_38 dX3_lengths_15 w (fun v1 w => ?_)
  refine zm_icmp_ge (tgt := 42) C dX3_lengths_18 (by decide) (fun z => ?_) (fun z => ?_)
  · replace w := w.1 z
    refine zm_aload_n C rfl 0 rfl dX3_lengths_42 ?_
    refine zm_aload_n C rfl 0 rfl dX3_lengths_43 ?_
    refine zm_getR C ff_X3_27 dX3_lengths_44 w (fun v2 w => ?_)
    refine zm_aload_n C rfl 2 rfl dX3_lengths_47 ?_
    obtain ⟨wr, w⟩ := w
    refine zm_Vv (As := [.ref v2, .ref a2]) (rest := []) C M_X3_putCode sv_X3_59 rfl dX3_lengths_48 rfl (Nat.le_of_ble_eq_true rfl) (by decide) (by decide) (by show nc + 0 ≤ 0; omega) (by show ns + 0 ≤ 0; omega) wr w (fun h1 w => ?_)
    refine zm_aload_n C rfl 2 rfl dX3_lengths_51 ?_
    refine zm_aload_n C rfl 1 rfl dX3_lengths_52 ?_
    refine zm_getR C ff_X3_63 dX3_lengths_53 w (fun v3 w => ?_)
    refine zm_iconst (v := nI 0) C (by decide) dX3_lengths_56 ?_
    refine zm_aload_n C rfl 1 rfl dX3_lengths_57 ?_
    obtain ⟨wr, w⟩ := w
    refine zm_Vi (As := []) (rest := [.int (nI 0), .ref v3, .ref a2]) C M_X5_total sv_X3_67 rfl dX3_lengths_58 rfl (Nat.le_of_ble_eq_true rfl) (by decide) (by decide) (by show nc + 0 ≤ 0; omega) (by show ns + 0 ≤ 0; omega) wr w (fun v4 h2 w => ?_)
    obtain ⟨wr, w⟩ := w
    refine zm_Vv (As := [.ref v3, .int (nI 0), .int v4]) (rest := []) C M_X0_putAll sv_X3_71 rfl dX3_lengths_61 rfl (Nat.le_of_ble_eq_true rfl) (by decide) (by decide) (by show nc + 0 ≤ 0; omega) (by show ns + 0 ≤ 0; omega) wr w (fun h3 w => ?_)
    exact zm_return C Rt (by show nc ≤ 0; omega) (by show ns ≤ 0; omega) dX3_lengths_64 w
  · replace w := w.2 z
    refine zm_aload_n C rfl 0 rfl dX3_lengths_21 ?_
    refine zm_getR C ff_X3_27 dX3_lengths_22 w (fun v5 w => ?_)
    refine zm_getR C ff_X3_51 dX3_lengths_25 w (fun v6 w => ?_)
    refine zm_iload_n C rfl 3 rfl dX3_lengths_28 ?_
    refine zm_aload_n C rfl 1 rfl dX3_lengths_29 ?_
    refine zm_iload_n C rfl 3 rfl dX3_lengths_30 ?_
    obtain ⟨wr, w⟩ := w
    refine zm_Vi (As := [.int i3]) (rest := [.int i3, .ref v6]) C M_X5_lengthOf sv_X3_55 rfl dX3_lengths_31 rfl (Nat.le_of_ble_eq_true rfl) (by decide) (by decide) (by show nc + 0 ≤ 0; omega) (by show ns + 0 ≤ 0; omega) wr w (fun v7 h4 w => ?_)
    refine zm_i2l C dX3_lengths_34 ?_
    refine zm_stL C dX3_lengths_35 w (fun h5 w => ?_)
    refine zm_iinc (L' := [(0, .ref a0), (1, .ref a1), (2, .ref a2), (3, .int (i3 + (nI 1)))]) C (by decide) 3 [1, 2, 3, 0] dX3_lengths_36 rfl rfl rfl ?_
    refine zm_goto (tgt := 13) C dX3_lengths_39 (by decide) ?_
    exact w
set_option maxRecDepth 20000 in
theorem B_X3_front_0 {E : zm_E} {K : zm_K} {Post : zm_Po} {nc ns : Nat} (C : zm_Cx E K cX3_front RX3 6 131 0 0 5) (Rt : zm_Rt E Post 0 0 none) {a0 : Nat} {a1 : Nat} {a2 : Nat} {h : zm_H} (w : zm_gR h a0 3 0 fun v1 => zm_gI h a1 5 2 fun v2 => zm_pf h v1 1 2 (.int v2) fun h1 => zm_gR h1 a0 3 1 fun v3 => zm_gI h1 a1 5 2 fun v4 => zm_pf h1 v3 1 2 (.int v4) fun h2 => zm_Go E nc ns 24 [(0, .ref a0), (1, .ref a1), (2, .ref a2), (3, .int (nI 0))] [] h2) : zm_Go E nc ns 0 [(0, .ref a0), (1, .ref a1), (2, .ref a2)] [] h := by
  refine zm_aload_n C rfl 0 rfl dX3_front_0 ?_
  refine zm_getR C ff_X3_27 dX3_front_1 w (fun v1 w => ?_)
  refine zm_aload_n C rfl 1 rfl dX3_front_4 ?_
  refine zm_getI C ff_X3_38 dX3_front_5 w (fun v2 w => ?_)
  refine zm_put C ff_X3_48 ft_X1 fp_X3_1_2 rfl rfl dX3_front_8 w (fun h1 w => ?_)
  refine zm_aload_n C rfl 0 rfl dX3_front_11 ?_
  refine zm_getR C ff_X3_31 dX3_front_12 w (fun v3 w => ?_)
  refine zm_aload_n C rfl 1 rfl dX3_front_15 ?_
  refine zm_getI C ff_X3_38 dX3_front_16 w (fun v4 w => ?_)
  refine zm_put C ff_X3_48 ft_X1 fp_X3_1_2 rfl rfl dX3_front_19 w (fun h2 w => ?_)
  refine zm_iconst (v := nI 0) C (by decide) dX3_front_22 ?_
  refine zm_istore_n (L' := [(0, .ref a0), (1, .ref a1), (2, .ref a2), (3, .int (nI 0))]) C rfl (by decide) [1, 2, 3, 0] dX3_front_23 rfl ?_
  exact w
set_option maxRecDepth 20000 in
theorem B_X3_front_24 {E : zm_E} {K : zm_K} {Post : zm_Po} {nc ns : Nat} (C : zm_Cx E K cX3_front RX3 6 131 0 0 5) (Rt : zm_Rt E Post 0 0 none) {a0 : Nat} {a1 : Nat} {a2 : Nat} {i3 : Int32} {h : zm_H} (hnc : nc ≤ 0) (hns : ns ≤ 0) (w : zm_gI h a1 5 2 fun v1 => (v1 ≤ i3 → zm_gR h a0 3 0 fun v2 => zm_rc h a0 3 ∧ zm_cv K M_X3_putCode [.ref a0, .ref v2, .ref a2] h fun h1 => zm_gR h1 a0 3 1 fun v3 => zm_rc h1 a0 3 ∧ zm_cv K M_X3_putCode [.ref a0, .ref v3, .ref a2] h1 fun h2 => zm_Go E nc ns 95 [(0, .ref a0), (1, .ref a1), (2, .ref a2), (3, .int (nI 0))] [] h2) ∧ (¬ v1 ≤ i3 → zm_rc h a1 5 ∧ zm_ci K M_X5_commonWithLast [.ref a1, .int i3] h fun v4 h3 => zm_gR h3 a0 3 0 fun v5 => zm_gR h3 v5 1 0 fun v6 => zm_sL K h3 v6 i3 v4.toInt64 fun h4 => zm_gR h4 a0 3 1 fun v7 => zm_gR h4 v7 1 0 fun v8 => zm_rc h4 a1 5 ∧ zm_ci K M_X5_lengthOf [.ref a1, .int i3] h4 fun v9 h5 => zm_sL K h5 v8 i3 ((v9 - v4).toInt64) fun h6 => zm_Go E nc ns 24 [(0, .ref a0), (1, .ref a1), (2, .ref a2), (3, .int (i3 + (nI 1)))] [] h6)) : zm_Go E nc ns 24 [(0, .ref a0), (1, .ref a1), (2, .ref a2), (3, .int i3)] [] h := by
  refine zm_iload_n C rfl 3 rfl dX3_front_24 ?_
  refine zm_aload_n C rfl 1 rfl dX3_front_25 ?_
  refine zm_getI C ff_X3_38 dX3_front_26 w (fun v1 w => ?_)
  refine zm_icmp_ge (tgt := 75) C dX3_front_29 (by decide) (fun z => ?_) (fun z => ?_)
  · replace w := w.1 z
    refine zm_aload_n C rfl 0 rfl dX3_front_75 ?_
    refine zm_aload_n C rfl 0 rfl dX3_front_76 ?_
    refine zm_getR C ff_X3_27 dX3_front_77 w (fun v2 w => ?_)
    refine zm_aload_n C rfl 2 rfl dX3_front_80 ?_
    obtain ⟨wr, w⟩ := w
    refine zm_Vv (As := [.ref v2, .ref a2]) (rest := []) C M_X3_putCode sv_X3_59 rfl dX3_front_81 rfl (Nat.le_of_ble_eq_true rfl) (by decide) (by decide) (by show nc + 0 ≤ 0; omega) (by show ns + 0 ≤ 0; omega) wr w (fun h1 w => ?_)
    refine zm_aload_n C rfl 0 rfl dX3_front_84 ?_
    refine zm_aload_n C rfl 0 rfl dX3_front_85 ?_
    refine zm_getR C ff_X3_31 dX3_front_86 w (fun v3 w => ?_)
    refine zm_aload_n C rfl 2 rfl dX3_front_89 ?_
    obtain ⟨wr, w⟩ := w
    refine zm_Vv (As := [.ref v3, .ref a2]) (rest := []) C M_X3_putCode sv_X3_59 rfl dX3_front_90 rfl (Nat.le_of_ble_eq_true rfl) (by decide) (by decide) (by show nc + 0 ≤ 0; omega) (by show ns + 0 ≤ 0; omega) wr w (fun h2 w => ?_)
    refine zm_iconst (v := nI 0) C (by decide) dX3_front_93 ?_
    refine zm_istore_n (L' := [(0, .ref a0), (1, .ref a1), (2, .ref a2), (3, .int (nI 0))]) C rfl (by decide) [1, 2, 3, 0] dX3_front_94 rfl ?_
    exact w
  · replace w := w.2 z
    refine zm_aload_n C rfl 1 rfl dX3_front_32 ?_
    refine zm_iload_n C rfl 3 rfl dX3_front_33 ?_
    obtain ⟨wr, w⟩ := w
    refine zm_Vi (As := [.int i3]) (rest := []) C M_X5_commonWithLast sv_X3_75 rfl dX3_front_34 rfl (Nat.le_of_ble_eq_true rfl) (by decide) (by decide) (by show nc + 0 ≤ 0; omega) (by show ns + 0 ≤ 0; omega) wr w (fun v4 h3 w => ?_)
    refine zm_istore (L' := [(0, .ref a0), (1, .ref a1), (2, .ref a2), (3, .int i3), (4, .int v4)]) C (by decide) [1, 2, 3, 4, 0] dX3_front_37 rfl ?_
    refine zm_aload_n C rfl 0 rfl dX3_front_39 ?_
    refine zm_getR C ff_X3_27 dX3_front_40 w (fun v5 w => ?_)
    refine zm_getR C ff_X3_51 dX3_front_43 w (fun v6 w => ?_)
    refine zm_iload_n C rfl 3 rfl dX3_front_46 ?_
    refine zm_iload C 4 rfl dX3_front_47 ?_
    refine zm_i2l C dX3_front_49 ?_
    refine zm_stL C dX3_front_50 w (fun h4 w => ?_)
    refine zm_aload_n C rfl 0 rfl dX3_front_51 ?_
    refine zm_getR C ff_X3_31 dX3_front_52 w (fun v7 w => ?_)
    refine zm_getR C ff_X3_51 dX3_front_55 w (fun v8 w => ?_)
    refine zm_iload_n C rfl 3 rfl dX3_front_58 ?_
    refine zm_aload_n C rfl 1 rfl dX3_front_59 ?_
    refine zm_iload_n C rfl 3 rfl dX3_front_60 ?_
    obtain ⟨wr, w⟩ := w
    refine zm_Vi (As := [.int i3]) (rest := [.int i3, .ref v8]) C M_X5_lengthOf sv_X3_55 rfl dX3_front_61 rfl (Nat.le_of_ble_eq_true rfl) (by decide) (by decide) (by show nc + 0 ≤ 0; omega) (by show ns + 0 ≤ 0; omega) wr w (fun v9 h5 w => ?_)
    refine zm_iload C 4 rfl dX3_front_64 ?_
    refine zm_isub C dX3_front_66 ?_
    refine zm_i2l C dX3_front_67 ?_
    refine zm_stL C dX3_front_68 w (fun h6 w => ?_)
    refine zm_iinc (L' := [(0, .ref a0), (1, .ref a1), (2, .ref a2), (3, .int (i3 + (nI 1))), (4, .int v4)]) C (by decide) 3 [1, 2, 3, 0, 4] dX3_front_69 rfl rfl rfl ?_
    refine zm_goto (tgt := 24) C dX3_front_72 (by decide) ?_
    exact zm_loc [0, 1, 2, 3] rfl w
set_option maxRecDepth 20000 in
theorem B_X3_front_95 {E : zm_E} {K : zm_K} {Post : zm_Po} {nc ns : Nat} (C : zm_Cx E K cX3_front RX3 6 131 0 0 5) (Rt : zm_Rt E Post 0 0 none) {a0 : Nat} {a1 : Nat} {a2 : Nat} {i3 : Int32} {h : zm_H} (hnc : nc ≤ 0) (hns : ns ≤ 0) (w : zm_gI h a1 5 2 fun v1 => (v1 ≤ i3 → Post none h) ∧ (¬ v1 ≤ i3 → zm_gR h a0 3 0 fun v2 => zm_gR h v2 1 0 fun v3 => zm_lL K h v3 i3 fun v4 => zm_gR h a1 5 0 fun v5 => zm_gR h a1 5 1 fun v6 => zm_ld K 1 h v6 i3 fun v7 => zm_gR h a0 3 1 fun v8 => zm_gR h v8 1 0 fun v9 => zm_lL K h v9 i3 fun v10 => zm_rc h a2 0 ∧ zm_cv K M_X0_putAll [.ref a2, .ref v5, .int (v7 + v4.toInt32), .int v10.toInt32] h fun h1 => zm_Go E nc ns 95 [(0, .ref a0), (1, .ref a1), (2, .ref a2), (3, .int (i3 + (nI 1)))] [] h1)) : zm_Go E nc ns 95 [(0, .ref a0), (1, .ref a1), (2, .ref a2), (3, .int i3)] [] h := by
  refine zm_iload_n C rfl 3 rfl dX3_front_95 ?_
  refine zm_aload_n C rfl 1 rfl dX3_front_96 ?_
  refine zm_getI C ff_X3_38 dX3_front_97 w (fun v1 w => ?_)
  refine zm_icmp_ge (tgt := 148) C dX3_front_100 (by decide) (fun z => ?_) (fun z => ?_)
  · replace w := w.1 z
    exact zm_return C Rt (by show nc ≤ 0; omega) (by show ns ≤ 0; omega) dX3_front_148 w
  · replace w := w.2 z
    refine zm_aload_n C rfl 0 rfl dX3_front_103 ?_
    refine zm_getR C ff_X3_27 dX3_front_104 w (fun v2 w => ?_)
    refine zm_getR C ff_X3_51 dX3_front_107 w (fun v3 w => ?_)
    refine zm_iload_n C rfl 3 rfl dX3_front_110 ?_
    refine zm_ldL C dX3_front_111 w (fun v4 w => ?_)
    refine zm_l2i C dX3_front_112 ?_
    refine zm_istore (L' := [(0, .ref a0), (1, .ref a1), (2, .ref a2), (3, .int i3), (4, .int v4.toInt32)]) C (by decide) [1, 2, 3, 4, 0] dX3_front_113 rfl ?_
    refine zm_aload_n C rfl 2 rfl dX3_front_115 ?_
    refine zm_aload_n C rfl 1 rfl dX3_front_116 ?_
    refine zm_getR C ff_X3_63 dX3_front_117 w (fun v5 w => ?_)
    refine zm_aload_n C rfl 1 rfl dX3_front_120 ?_
    refine zm_getR C ff_X3_78 dX3_front_121 w (fun v6 w => ?_)
    refine zm_iload_n C rfl 3 rfl dX3_front_124 ?_
    refine zm_ldI C dX3_front_125 w (fun v7 w => ?_)
    refine zm_iload C 4 rfl dX3_front_126 ?_
    refine zm_iadd C dX3_front_128 ?_
    refine zm_aload_n C rfl 0 rfl dX3_front_129 ?_
    refine zm_getR C ff_X3_31 dX3_front_130 w (fun v8 w => ?_)
    refine zm_getR C ff_X3_51 dX3_front_133 w (fun v9 w => ?_)
    refine zm_iload_n C rfl 3 rfl dX3_front_136 ?_
    refine zm_ldL C dX3_front_137 w (fun v10 w => ?_)
    refine zm_l2i C dX3_front_138 ?_
    obtain ⟨wr, w⟩ := w
    refine zm_Vv (As := [.ref v5, .int (v7 + v4.toInt32), .int v10.toInt32]) (rest := []) C M_X0_putAll sv_X3_71 rfl dX3_front_139 rfl (Nat.le_of_ble_eq_true rfl) (by decide) (by decide) (by show nc + 0 ≤ 0; omega) (by show ns + 0 ≤ 0; omega) wr w (fun h1 w => ?_)
    refine zm_iinc (L' := [(0, .ref a0), (1, .ref a1), (2, .ref a2), (3, .int (i3 + (nI 1))), (4, .int v4.toInt32)]) C (by decide) 3 [1, 2, 3, 0, 4] dX3_front_142 rfl rfl rfl ?_
    refine zm_goto (tgt := 95) C dX3_front_145 (by decide) ?_
    exact zm_loc [0, 1, 2, 3] rfl w
set_option maxRecDepth 20000 in
theorem B_X3_dictionary_0 {E : zm_E} {K : zm_K} {Post : zm_Po} {nc ns : Nat} (C : zm_Cx E K cX3_dictionary RX3 5 99 0 0 4) (Rt : zm_Rt E Post 0 0 none) {a0 : Nat} {a1 : Nat} {a2 : Nat} {h : zm_H} (hnc : nc ≤ 0) (hns : ns ≤ 0) (w : zm_gR h a0 3 3 fun v1 => zm_rc h v1 4 ∧ zm_cv K M_X4_empty [.ref v1] h fun h1 => zm_gR h1 a0 3 2 fun v2 => zm_gI h1 a1 5 2 fun v3 => zm_pf h1 v2 6 1 (.int v3) fun h2 => zm_Go E nc ns 20 [(0, .ref a0), (1, .ref a1), (2, .ref a2), (3, .int (nI 0))] [] h2) : zm_Go E nc ns 0 [(0, .ref a0), (1, .ref a1), (2, .ref a2)] [] h := by
  refine zm_aload_n C rfl 0 rfl dX3_dictionary_0 ?_
  refine zm_getR C ff_X3_12 dX3_dictionary_1 w (fun v1 w => ?_)
  obtain ⟨wr, w⟩ := w
  refine zm_Vv (As := []) (rest := []) C M_X4_empty sv_X3_82 rfl dX3_dictionary_4 rfl (Nat.le_of_ble_eq_true rfl) (by decide) (by decide) (by show nc + 0 ≤ 0; omega) (by show ns + 0 ≤ 0; omega) wr w (fun h1 w => ?_)
  refine zm_aload_n C rfl 0 rfl dX3_dictionary_7 ?_
  refine zm_getR C ff_X3_34 dX3_dictionary_8 w (fun v2 w => ?_)
  refine zm_aload_n C rfl 1 rfl dX3_dictionary_11 ?_
  refine zm_getI C ff_X3_38 dX3_dictionary_12 w (fun v3 w => ?_)
  refine zm_put C ff_X3_85 ft_X6 fp_X3_6_1 rfl rfl dX3_dictionary_15 w (fun h2 w => ?_)
  refine zm_iconst (v := nI 0) C (by decide) dX3_dictionary_18 ?_
  refine zm_istore_n (L' := [(0, .ref a0), (1, .ref a1), (2, .ref a2), (3, .int (nI 0))]) C rfl (by decide) [1, 2, 3, 0] dX3_dictionary_19 rfl ?_
  exact w
set_option maxRecDepth 20000 in
theorem B_X3_dictionary_20 {E : zm_E} {K : zm_K} {Post : zm_Po} {nc ns : Nat} (C : zm_Cx E K cX3_dictionary RX3 5 99 0 0 4) (Rt : zm_Rt E Post 0 0 none) {a0 : Nat} {a1 : Nat} {a2 : Nat} {i3 : Int32} {h : zm_H} (hnc : nc ≤ 0) (hns : ns ≤ 0) (w : zm_gI h a1 5 2 fun v1 => (v1 ≤ i3 → zm_gR h a0 3 3 fun v2 => zm_gI h v2 4 2 fun v3 => zm_rc h a2 0 ∧ zm_cv K M_X0_putVarint [.ref a2, .long v3.toInt64] h fun h1 => zm_Go E nc ns 67 [(0, .ref a0), (1, .ref a1), (2, .ref a2), (3, .int (nI 0))] [] h1) ∧ (¬ v1 ≤ i3 → zm_gR h a0 3 2 fun v4 => zm_gR h v4 6 0 fun v5 => zm_gR h a0 3 3 fun v6 => zm_rc h v6 4 ∧ zm_ci K M_X4_numberOf [.ref v6, .ref a1, .int i3] h fun v7 h2 => zm_sL K h2 v5 i3 v7.toInt64 fun h3 => zm_Go E nc ns 20 [(0, .ref a0), (1, .ref a1), (2, .ref a2), (3, .int (i3 + (nI 1)))] [] h3)) : zm_Go E nc ns 20 [(0, .ref a0), (1, .ref a1), (2, .ref a2), (3, .int i3)] [] h := by
  refine zm_iload_n C rfl 3 rfl dX3_dictionary_20 ?_
  refine zm_aload_n C rfl 1 rfl dX3_dictionary_21 ?_
  refine zm_getI C ff_X3_38 dX3_dictionary_22 w (fun v1 w => ?_)
  refine zm_icmp_ge (tgt := 53) C dX3_dictionary_25 (by decide) (fun z => ?_) (fun z => ?_)
  · replace w := w.1 z
    refine zm_aload_n C rfl 2 rfl dX3_dictionary_53 ?_
    refine zm_aload_n C rfl 0 rfl dX3_dictionary_54 ?_
    refine zm_getR C ff_X3_12 dX3_dictionary_55 w (fun v2 w => ?_)
    refine zm_getI C ff_X3_93 dX3_dictionary_58 w (fun v3 w => ?_)
    refine zm_i2l C dX3_dictionary_61 ?_
    obtain ⟨wr, w⟩ := w
    refine zm_Vv (As := [.long v3.toInt64]) (rest := []) C M_X0_putVarint sv_X3_94 rfl dX3_dictionary_62 rfl (Nat.le_of_ble_eq_true rfl) (by decide) (by decide) (by show nc + 0 ≤ 0; omega) (by show ns + 0 ≤ 0; omega) wr w (fun h1 w => ?_)
    refine zm_iconst (v := nI 0) C (by decide) dX3_dictionary_65 ?_
    refine zm_istore_n (L' := [(0, .ref a0), (1, .ref a1), (2, .ref a2), (3, .int (nI 0))]) C rfl (by decide) [1, 2, 3, 0] dX3_dictionary_66 rfl ?_
    exact w
  · replace w := w.2 z
    refine zm_aload_n C rfl 0 rfl dX3_dictionary_28 ?_
    refine zm_getR C ff_X3_34 dX3_dictionary_29 w (fun v4 w => ?_)
    refine zm_getR C ff_X3_88 dX3_dictionary_32 w (fun v5 w => ?_)
    refine zm_iload_n C rfl 3 rfl dX3_dictionary_35 ?_
    refine zm_aload_n C rfl 0 rfl dX3_dictionary_36 ?_
    refine zm_getR C ff_X3_12 dX3_dictionary_37 w (fun v6 w => ?_)
    refine zm_aload_n C rfl 1 rfl dX3_dictionary_40 ?_
    refine zm_iload_n C rfl 3 rfl dX3_dictionary_41 ?_
    obtain ⟨wr, w⟩ := w
    refine zm_Vi (As := [.ref a1, .int i3]) (rest := [.int i3, .ref v5]) C M_X4_numberOf sv_X3_89 rfl dX3_dictionary_42 rfl (Nat.le_of_ble_eq_true rfl) (by decide) (by decide) (by show nc + 0 ≤ 0; omega) (by show ns + 0 ≤ 0; omega) wr w (fun v7 h2 w => ?_)
    refine zm_i2l C dX3_dictionary_45 ?_
    refine zm_stL C dX3_dictionary_46 w (fun h3 w => ?_)
    refine zm_iinc (L' := [(0, .ref a0), (1, .ref a1), (2, .ref a2), (3, .int (i3 + (nI 1)))]) C (by decide) 3 [1, 2, 3, 0] dX3_dictionary_47 rfl rfl rfl ?_
    refine zm_goto (tgt := 20) C dX3_dictionary_50 (by decide) ?_
    exact w
set_option maxRecDepth 20000 in
theorem B_X3_dictionary_67 {E : zm_E} {K : zm_K} {Post : zm_Po} {nc ns : Nat} (C : zm_Cx E K cX3_dictionary RX3 5 99 0 0 4) (Rt : zm_Rt E Post 0 0 none) {a0 : Nat} {a1 : Nat} {a2 : Nat} {i3 : Int32} {h : zm_H} (hnc : nc ≤ 0) (hns : ns ≤ 0) (w : zm_gR h a0 3 3 fun v1 => zm_gI h v1 4 2 fun v2 => (v2 ≤ i3 → zm_gR h a0 3 3 fun v3 => zm_gI h v3 4 2 fun v4 => zm_ci K M_X8_bitsOf [.long ((if v4 - (nI 1) < nI 0 then nI 0 else v4 - (nI 1)).toInt64)] h fun v5 h1 => zm_rc h1 a2 0 ∧ zm_cv K M_X0_put [.ref a2, .int v5] h1 fun h2 => zm_gR h2 a0 3 2 fun v6 => zm_rc h2 v6 6 ∧ zm_cv K M_X6_writeOn [.ref v6, .ref a2, .int v5] h2 fun h3 => Post none h3) ∧ (¬ v2 ≤ i3 → zm_gR h a0 3 3 fun v7 => zm_gR h v7 4 1 fun v8 => zm_ld K 1 h v8 i3 fun v9 => zm_rc h a0 3 ∧ zm_cv K M_X3_putText [.ref a0, .ref a1, .int v9, .ref a2] h fun h4 => zm_Go E nc ns 67 [(0, .ref a0), (1, .ref a1), (2, .ref a2), (3, .int (i3 + (nI 1)))] [] h4)) : zm_Go E nc ns 67 [(0, .ref a0), (1, .ref a1), (2, .ref a2), (3, .int i3)] [] h := by
  refine zm_iload_n C rfl 3 rfl dX3_dictionary_67 ?_
  refine zm_aload_n C rfl 0 rfl dX3_dictionary_68 ?_
  refine zm_getR C ff_X3_12 dX3_dictionary_69 w (fun v1 w => ?_)
  refine zm_getI C ff_X3_93 dX3_dictionary_72 w (fun v2 w => ?_)
  refine zm_icmp_ge (tgt := 99) C dX3_dictionary_75 (by decide) (fun z => ?_) (fun z => ?_)
  · replace w := w.1 z
    refine zm_aload_n C rfl 0 rfl dX3_dictionary_99 ?_
    refine zm_getR C ff_X3_12 dX3_dictionary_100 w (fun v3 w => ?_)
    refine zm_getI C ff_X3_93 dX3_dictionary_103 w (fun v4 w => ?_)
    refine zm_iconst (v := nI 1) C (by decide) dX3_dictionary_106 ?_
    refine zm_isub C dX3_dictionary_107 ?_
    refine zm_iconst (v := nI 0) C (by decide) dX3_dictionary_108 ?_
    refine zm_mmax C (zm_inG (by decide +kernel) rfl) (zm_inG (by decide +kernel) rfl) (zm_inG (by decide +kernel) rfl) zi_max (by decide) (by decide) (Nat.le_of_ble_eq_true rfl) (by show nc ≤ 0; omega) (by show ns ≤ 0; omega) dX3_dictionary_109 ?_
    refine zm_i2l C dX3_dictionary_112 ?_
    refine zm_Ni (As := [.long ((if v4 - (nI 1) < nI 0 then nI 0 else v4 - (nI 1)).toInt64)]) (rest := []) C M_X8_bitsOf sn_X3_107 rfl dX3_dictionary_113 rfl (Nat.le_of_ble_eq_true rfl) (by decide) (by decide) (by show nc + 0 ≤ 0; omega) (by show ns + 0 ≤ 0; omega) w (fun v5 h1 w => ?_)
    refine zm_istore_n (L' := [(0, .ref a0), (1, .ref a1), (2, .ref a2), (3, .int v5)]) C rfl (by decide) [1, 2, 3, 0] dX3_dictionary_116 rfl ?_
    refine zm_aload_n C rfl 2 rfl dX3_dictionary_117 ?_
    refine zm_iload_n C rfl 3 rfl dX3_dictionary_118 ?_
    obtain ⟨wr, w⟩ := w
    refine zm_Vv (As := [.int v5]) (rest := []) C M_X0_put sv_X3_111 rfl dX3_dictionary_119 rfl (Nat.le_of_ble_eq_true rfl) (by decide) (by decide) (by show nc + 0 ≤ 0; omega) (by show ns + 0 ≤ 0; omega) wr w (fun h2 w => ?_)
    refine zm_aload_n C rfl 0 rfl dX3_dictionary_122 ?_
    refine zm_getR C ff_X3_34 dX3_dictionary_123 w (fun v6 w => ?_)
    refine zm_aload_n C rfl 2 rfl dX3_dictionary_126 ?_
    refine zm_iload_n C rfl 3 rfl dX3_dictionary_127 ?_
    obtain ⟨wr, w⟩ := w
    refine zm_Vv (As := [.ref a2, .int v5]) (rest := []) C M_X6_writeOn sv_X3_114 rfl dX3_dictionary_128 rfl (Nat.le_of_ble_eq_true rfl) (by decide) (by decide) (by show nc + 0 ≤ 0; omega) (by show ns + 0 ≤ 0; omega) wr w (fun h3 w => ?_)
    exact zm_return C Rt (by show nc ≤ 0; omega) (by show ns ≤ 0; omega) dX3_dictionary_131 w
  · replace w := w.2 z
    refine zm_aload_n C rfl 0 rfl dX3_dictionary_78 ?_
    refine zm_aload_n C rfl 1 rfl dX3_dictionary_79 ?_
    refine zm_aload_n C rfl 0 rfl dX3_dictionary_80 ?_
    refine zm_getR C ff_X3_12 dX3_dictionary_81 w (fun v7 w => ?_)
    refine zm_getR C ff_X3_98 dX3_dictionary_84 w (fun v8 w => ?_)
    refine zm_iload_n C rfl 3 rfl dX3_dictionary_87 ?_
    refine zm_ldI C dX3_dictionary_88 w (fun v9 w => ?_)
    refine zm_aload_n C rfl 2 rfl dX3_dictionary_89 ?_
    obtain ⟨wr, w⟩ := w
    refine zm_Vv (As := [.ref a1, .int v9, .ref a2]) (rest := []) C M_X3_putText sv_X3_44 rfl dX3_dictionary_90 rfl (Nat.le_of_ble_eq_true rfl) (by decide) (by decide) (by show nc + 0 ≤ 0; omega) (by show ns + 0 ≤ 0; omega) wr w (fun h4 w => ?_)
    refine zm_iinc (L' := [(0, .ref a0), (1, .ref a1), (2, .ref a2), (3, .int (i3 + (nI 1)))]) C (by decide) 3 [1, 2, 3, 0] dX3_dictionary_93 rfl rfl rfl ?_
    refine zm_goto (tgt := 67) C dX3_dictionary_96 (by decide) ?_
    exact w
set_option maxRecDepth 20000 in
theorem B_X3_putText_0 {E : zm_E} {K : zm_K} {Post : zm_Po} {nc ns : Nat} (C : zm_Cx E K cX3_putText RX3 3 49 0 0 4) (Rt : zm_Rt E Post 0 0 none) {a1 : Nat} {i2 : Int32} {a3 : Nat} {h : zm_H} (hnc : nc ≤ 0) (hns : ns ≤ 0) (w : zm_rc h a1 5 ∧ zm_ci K M_X5_lengthOf [.ref a1, .int i2] h fun v1 h1 => zm_rc h1 a3 0 ∧ zm_cv K M_X0_putVarint [.ref a3, .long v1.toInt64] h1 fun h2 => zm_gR h2 a1 5 0 fun v2 => zm_gR h2 a1 5 1 fun v3 => zm_ld K 1 h2 v3 i2 fun v4 => zm_rc h2 a1 5 ∧ zm_ci K M_X5_lengthOf [.ref a1, .int i2] h2 fun v5 h3 => zm_rc h3 a3 0 ∧ zm_cv K M_X0_putAll [.ref a3, .ref v2, .int v4, .int v5] h3 fun h4 => Post none h4) : zm_Go E nc ns 0 [(1, .ref a1), (2, .int i2), (3, .ref a3)] [] h := by
  refine zm_aload_n C rfl 2 rfl dX3_putText_0 ?_
  refine zm_aload_n C rfl 0 rfl dX3_putText_1 ?_
  refine zm_iload_n C rfl 1 rfl dX3_putText_2 ?_
  obtain ⟨wr, w⟩ := w
  refine zm_Vi (As := [.int i2]) (rest := [.ref a3]) C M_X5_lengthOf sv_X3_55 rfl dX3_putText_3 rfl (Nat.le_of_ble_eq_true rfl) (by decide) (by decide) (by show nc + 0 ≤ 0; omega) (by show ns + 0 ≤ 0; omega) wr w (fun v1 h1 w => ?_)
  refine zm_i2l C dX3_putText_6 ?_
  obtain ⟨wr, w⟩ := w
  refine zm_Vv (As := [.long v1.toInt64]) (rest := []) C M_X0_putVarint sv_X3_94 rfl dX3_putText_7 rfl (Nat.le_of_ble_eq_true rfl) (by decide) (by decide) (by show nc + 0 ≤ 0; omega) (by show ns + 0 ≤ 0; omega) wr w (fun h2 w => ?_)
  refine zm_aload_n C rfl 2 rfl dX3_putText_10 ?_
  refine zm_aload_n C rfl 0 rfl dX3_putText_11 ?_
  refine zm_getR C ff_X3_63 dX3_putText_12 w (fun v2 w => ?_)
  refine zm_aload_n C rfl 0 rfl dX3_putText_15 ?_
  refine zm_getR C ff_X3_78 dX3_putText_16 w (fun v3 w => ?_)
  refine zm_iload_n C rfl 1 rfl dX3_putText_19 ?_
  refine zm_ldI C dX3_putText_20 w (fun v4 w => ?_)
  refine zm_aload_n C rfl 0 rfl dX3_putText_21 ?_
  refine zm_iload_n C rfl 1 rfl dX3_putText_22 ?_
  obtain ⟨wr, w⟩ := w
  refine zm_Vi (As := [.int i2]) (rest := [.int v4, .ref v2, .ref a3]) C M_X5_lengthOf sv_X3_55 rfl dX3_putText_23 rfl (Nat.le_of_ble_eq_true rfl) (by decide) (by decide) (by show nc + 0 ≤ 0; omega) (by show ns + 0 ≤ 0; omega) wr w (fun v5 h3 w => ?_)
  obtain ⟨wr, w⟩ := w
  refine zm_Vv (As := [.ref v2, .int v4, .int v5]) (rest := []) C M_X0_putAll sv_X3_71 rfl dX3_putText_26 rfl (Nat.le_of_ble_eq_true rfl) (by decide) (by decide) (by show nc + 0 ≤ 0; omega) (by show ns + 0 ≤ 0; omega) wr w (fun h4 w => ?_)
  exact zm_return C Rt (by show nc ≤ 0; omega) (by show ns ≤ 0; omega) dX3_putText_29 w
set_option maxRecDepth 20000 in
theorem B_X3_putCode_0 {E : zm_E} {K : zm_K} {Post : zm_Po} {nc ns : Nat} (C : zm_Cx E K cX3_putCode RX3 5 109 0 0 3) (Rt : zm_Rt E Post 0 0 none) {a0 : Nat} {a1 : Nat} {a2 : Nat} {h : zm_H} (hnc : nc ≤ 0) (hns : ns ≤ 0) (w : zm_gR h a0 3 4 fun v1 => zm_pf h v1 0 1 (.int (nI 0)) fun h1 => zm_gR h1 a0 3 4 fun v2 => zm_rc h1 a1 1 ∧ zm_cv K M_X1_writeOn [.ref a1, .ref v2] h1 fun h2 => zm_gR h2 a0 3 4 fun v3 => zm_gI h2 v3 0 1 fun v4 => zm_rc h2 a2 0 ∧ zm_cv K M_X0_putVarint [.ref a2, .long v4.toInt64] h2 fun h3 => zm_gR h3 a0 3 4 fun v5 => zm_gR h3 v5 0 0 fun v6 => zm_gR h3 a0 3 4 fun v7 => zm_gI h3 v7 0 1 fun v8 => zm_rc h3 a2 0 ∧ zm_cv K M_X0_putAll [.ref a2, .ref v6, .int (nI 0), .int v8] h3 fun h4 => Post none h4) : zm_Go E nc ns 0 [(0, .ref a0), (1, .ref a1), (2, .ref a2)] [] h := by
  refine zm_aload_n C rfl 0 rfl dX3_putCode_0 ?_
  refine zm_getR C ff_X3_23 dX3_putCode_1 w (fun v1 w => ?_)
  refine zm_iconst (v := nI 0) C (by decide) dX3_putCode_4 ?_
  refine zm_put C ff_X3_118 ft_X0 fp_X3_0_1 rfl rfl dX3_putCode_5 w (fun h1 w => ?_)
  refine zm_aload_n C rfl 1 rfl dX3_putCode_8 ?_
  refine zm_aload_n C rfl 0 rfl dX3_putCode_9 ?_
  refine zm_getR C ff_X3_23 dX3_putCode_10 w (fun v2 w => ?_)
  obtain ⟨wr, w⟩ := w
  refine zm_Vv (As := [.ref v2]) (rest := []) C M_X1_writeOn sv_X3_121 rfl dX3_putCode_13 rfl (Nat.le_of_ble_eq_true rfl) (by decide) (by decide) (by show nc + 0 ≤ 0; omega) (by show ns + 0 ≤ 0; omega) wr w (fun h2 w => ?_)
  refine zm_aload_n C rfl 2 rfl dX3_putCode_16 ?_
  refine zm_aload_n C rfl 0 rfl dX3_putCode_17 ?_
  refine zm_getR C ff_X3_23 dX3_putCode_18 w (fun v3 w => ?_)
  refine zm_getI C ff_X3_118 dX3_putCode_21 w (fun v4 w => ?_)
  refine zm_i2l C dX3_putCode_24 ?_
  obtain ⟨wr, w⟩ := w
  refine zm_Vv (As := [.long v4.toInt64]) (rest := []) C M_X0_putVarint sv_X3_94 rfl dX3_putCode_25 rfl (Nat.le_of_ble_eq_true rfl) (by decide) (by decide) (by show nc + 0 ≤ 0; omega) (by show ns + 0 ≤ 0; omega) wr w (fun h3 w => ?_)
  refine zm_aload_n C rfl 2 rfl dX3_putCode_28 ?_
  refine zm_aload_n C rfl 0 rfl dX3_putCode_29 ?_
  refine zm_getR C ff_X3_23 dX3_putCode_30 w (fun v5 w => ?_)
  refine zm_getR C ff_X3_124 dX3_putCode_33 w (fun v6 w => ?_)
  refine zm_iconst (v := nI 0) C (by decide) dX3_putCode_36 ?_
  refine zm_aload_n C rfl 0 rfl dX3_putCode_37 ?_
  refine zm_getR C ff_X3_23 dX3_putCode_38 w (fun v7 w => ?_)
  refine zm_getI C ff_X3_118 dX3_putCode_41 w (fun v8 w => ?_)
  obtain ⟨wr, w⟩ := w
  refine zm_Vv (As := [.ref v6, .int (nI 0), .int v8]) (rest := []) C M_X0_putAll sv_X3_71 rfl dX3_putCode_44 rfl (Nat.le_of_ble_eq_true rfl) (by decide) (by decide) (by show nc + 0 ≤ 0; omega) (by show ns + 0 ≤ 0; omega) wr w (fun h4 w => ?_)
  exact zm_return C Rt (by show nc ≤ 0; omega) (by show ns ≤ 0; omega) dX3_putCode_47 w
set_option maxRecDepth 20000 in
theorem B_X4_init_0 {E : zm_E} {K : zm_K} {Post : zm_Po} {nc ns : Nat} (C : zm_Cx E K cX4_init RX4 1 26 2 3048 1) (Rt : zm_Rt E Post 2 3048 none) (hin : zm_in E) {a0 : Nat} {h : zm_H} (hnc : nc + 1 + 1 ≤ 2) (hns : ns + 2048 + 1000 ≤ 3048) (w : ¬ (nI 2048) < 0 ∧ 2048 * componentBytes .int ≤ 536870912 ∧ ns + 2048 ≤ 3048 ∧ ∀ v1, h v1 = none → zm_pf (zm_set h v1 (.inl (K.2.2 1, 2048, .inl (fun _ => 0)))) a0 4 0 (.ref v1) fun h1 => ¬ (nI 1000) < 0 ∧ 1000 * componentBytes .int ≤ 536870912 ∧ (ns + 2048) + 1000 ≤ 3048 ∧ ∀ v2, h1 v2 = none → zm_pf (zm_set h1 v2 (.inl (K.2.2 1, 1000, .inl (fun _ => 0)))) a0 4 1 (.ref v2) fun h2 => Post none h2) : zm_Go E nc ns 0 [(0, .ref a0)] [] h := by
  refine zm_aload_n C rfl 0 rfl dX4_init_0 ?_
  refine zm_objInit C (zm_inG (by decide +kernel) rfl) (zm_inG (by decide +kernel) rfl) zi_objInit (by decide) (by decide) (Nat.le_of_ble_eq_true rfl) dX4_init_1 ?_
  refine zm_aload_n C rfl 0 rfl dX4_init_4 ?_
  refine zm_sipush (v := nI 2048) C (by decide) dX4_init_5 ?_
  obtain ⟨g1, g2, g3, w⟩ := w
  refine zm_newa (ty := .int) (N := 2048) (a0 := (2048, .inl (fun _ => 0))) C 1 rfl (fun _ => rfl) (fun _ _ z => z) (zm_inG (by decide +kernel) rfl) (fun _ => rfl) dX4_init_8 g1 (by decide) g2 (by show nc + 1 ≤ 2; omega) g3 (fun v1 hq => ?_)
  replace w := w v1 hq
  refine zm_putQ C hin ff_X4_9 ft_X4 fp_X4_4_0 rfl rfl dX4_init_10 w (fun h1 w => ?_)
  refine zm_aload_n C rfl 0 rfl dX4_init_13 ?_
  refine zm_sipush (v := nI 1000) C (by decide) dX4_init_14 ?_
  obtain ⟨g1, g2, g3, w⟩ := w
  refine zm_newa (ty := .int) (N := 1000) (a0 := (1000, .inl (fun _ => 0))) C 1 rfl (fun _ => rfl) (fun _ _ z => z) (zm_inG (by decide +kernel) rfl) (fun _ => rfl) dX4_init_17 g1 (by decide) g2 (by show nc + 1 + 1 ≤ 2; omega) g3 (fun v2 hq => ?_)
  replace w := w v2 hq
  refine zm_putQ C hin ff_X4_15 ft_X4 fp_X4_4_1 rfl rfl dX4_init_19 w (fun h2 w => ?_)
  exact zm_return C Rt (by show nc + 1 + 1 ≤ 2; omega) (by show ns + 2048 + 1000 ≤ 3048; omega) dX4_init_22 w
set_option maxRecDepth 20000 in
theorem B_X4_empty_0 {E : zm_E} {K : zm_K} {Post : zm_Po} {nc ns : Nat} (C : zm_Cx E K cX4_empty RX4 1 0 0 0 2) (Rt : zm_Rt E Post 0 0 none) {a0 : Nat} {h : zm_H} (w : zm_pf h a0 4 2 (.int (nI 0)) fun h1 => zm_Go E nc ns 7 [(0, .ref a0), (1, .int (nI 0))] [] h1) : zm_Go E nc ns 0 [(0, .ref a0)] [] h := by
  refine zm_aload_n C rfl 0 rfl dX4_empty_0 ?_
  refine zm_iconst (v := nI 0) C (by decide) dX4_empty_1 ?_
  refine zm_put C ff_X4_18 ft_X4 fp_X4_4_2 rfl rfl dX4_empty_2 w (fun h1 w => ?_)
  refine zm_iconst (v := nI 0) C (by decide) dX4_empty_5 ?_
  refine zm_istore_n (L' := [(0, .ref a0), (1, .int (nI 0))]) C rfl (by decide) [1, 0] dX4_empty_6 rfl ?_
  exact w
set_option maxRecDepth 20000 in
theorem B_X4_empty_7 {E : zm_E} {K : zm_K} {Post : zm_Po} {nc ns : Nat} (C : zm_Cx E K cX4_empty RX4 1 0 0 0 2) (Rt : zm_Rt E Post 0 0 none) {a0 : Nat} {i1 : Int32} {h : zm_H} (hnc : nc ≤ 0) (hns : ns ≤ 0) (w : ((nI 2048) ≤ i1 → Post none h) ∧ (¬ (nI 2048) ≤ i1 → zm_gR h a0 4 0 fun v1 => zm_sI K h v1 i1 (nI 0) fun h1 => zm_Go E nc ns 7 [(0, .ref a0), (1, .int (i1 + (nI 1)))] [] h1)) : zm_Go E nc ns 7 [(0, .ref a0), (1, .int i1)] [] h := by
  refine zm_iload_n C rfl 1 rfl dX4_empty_7 ?_
  refine zm_sipush (v := nI 2048) C (by decide) dX4_empty_8 ?_
  refine zm_icmp_ge (tgt := 27) C dX4_empty_11 (by decide) (fun z => ?_) (fun z => ?_)
  · replace w := w.1 z
    exact zm_return C Rt (by show nc ≤ 0; omega) (by show ns ≤ 0; omega) dX4_empty_27 w
  · replace w := w.2 z
    refine zm_aload_n C rfl 0 rfl dX4_empty_14 ?_
    refine zm_getR C ff_X4_9 dX4_empty_15 w (fun v1 w => ?_)
    refine zm_iload_n C rfl 1 rfl dX4_empty_18 ?_
    refine zm_iconst (v := nI 0) C (by decide) dX4_empty_19 ?_
    refine zm_stI C dX4_empty_20 w (fun h1 w => ?_)
    refine zm_iinc (L' := [(0, .ref a0), (1, .int (i1 + (nI 1)))]) C (by decide) 1 [1, 0] dX4_empty_21 rfl rfl rfl ?_
    refine zm_goto (tgt := 7) C dX4_empty_24 (by decide) ?_
    exact w
set_option maxRecDepth 20000 in
theorem B_X4_numberOf_0 {E : zm_E} {K : zm_K} {Post : zm_Po} {nc ns : Nat} (C : zm_Cx E K cX4_numberOf RX4 4 66 0 0 6) (Rt : zm_Rt E Post 0 0 (some .int)) {a0 : Nat} {a1 : Nat} {i2 : Int32} {h : zm_H} (hnc : nc ≤ 0) (hns : ns ≤ 0) (w : zm_ci K M_X4_slotOf [.ref a1, .int i2] h fun v1 h1 => zm_Go E nc ns 9 [(0, .ref a0), (1, .ref a1), (2, .int i2), (3, .int v1), (4, .int (nI 0))] [] h1) : zm_Go E nc ns 0 [(0, .ref a0), (1, .ref a1), (2, .int i2)] [] h := by
  refine zm_aload_n C rfl 1 rfl dX4_numberOf_0 ?_
  refine zm_iload_n C rfl 2 rfl dX4_numberOf_1 ?_
  refine zm_Si (As := [.ref a1, .int i2]) (rest := []) C M_X4_slotOf ss_X4_22 rfl dX4_numberOf_2 rfl (Nat.le_of_ble_eq_true rfl) (by decide) (by decide) (by show nc + 0 ≤ 0; omega) (by show ns + 0 ≤ 0; omega) w (fun v1 h1 w => ?_)
  refine zm_istore_n (L' := [(0, .ref a0), (1, .ref a1), (2, .int i2), (3, .int v1)]) C rfl (by decide) [1, 2, 3, 0] dX4_numberOf_5 rfl ?_
  refine zm_iconst (v := nI 0) C (by decide) dX4_numberOf_6 ?_
  refine zm_istore (L' := [(0, .ref a0), (1, .ref a1), (2, .int i2), (3, .int v1), (4, .int (nI 0))]) C (by decide) [1, 2, 3, 4, 0] dX4_numberOf_7 rfl ?_
  exact w
set_option maxRecDepth 20000 in
theorem B_X4_numberOf_9 {E : zm_E} {K : zm_K} {Post : zm_Po} {nc ns : Nat} (C : zm_Cx E K cX4_numberOf RX4 4 66 0 0 6) (Rt : zm_Rt E Post 0 0 (some .int)) {a0 : Nat} {a1 : Nat} {i2 : Int32} {i3 : Int32} {i4 : Int32} {h : zm_H} (hnc : nc ≤ 0) (hns : ns ≤ 0) (w : ((nI 2048) ≤ i4 → Post (some (.int (nI 0))) h) ∧ (¬ (nI 2048) ≤ i4 → zm_gR h a0 4 0 fun v1 => zm_ld K 1 h v1 i3 fun v2 => (0 ≤ (v2 - (nI 1)) → zm_gR h a0 4 1 fun v3 => zm_ld K 1 h v3 (v2 - (nI 1)) fun v4 => zm_rc h a1 5 ∧ zm_ci K M_X5_areSame [.ref a1, .int v4, .int i2] h fun v5 h1 => (v5 = 0 → zm_Go E nc ns 9 [(0, .ref a0), (1, .ref a1), (2, .int i2), (3, .int ((i3 + (nI 1)) &&& (nI 2047))), (4, .int (i4 + (nI 1)))] [] h1) ∧ (¬ v5 = 0 → Post (some (.int (v2 - (nI 1)))) h1)) ∧ (¬ 0 ≤ (v2 - (nI 1)) → zm_rc h a0 4 ∧ zm_ci K M_X4_enter [.ref a0, .int i3, .int i2] h fun v6 h2 => Post (some (.int v6)) h2))) : zm_Go E nc ns 9 [(0, .ref a0), (1, .ref a1), (2, .int i2), (3, .int i3), (4, .int i4)] [] h := by
  refine zm_iload C 4 rfl dX4_numberOf_9 ?_
  refine zm_sipush (v := nI 2048) C (by decide) dX4_numberOf_11 ?_
  refine zm_icmp_ge (tgt := 71) C dX4_numberOf_14 (by decide) (fun z => ?_) (fun z => ?_)
  · replace w := w.1 z
    refine zm_iconst (v := nI 0) C (by decide) dX4_numberOf_71 ?_
    exact zm_ireturn C Rt (by show nc ≤ 0; omega) (by show ns ≤ 0; omega) rfl dX4_numberOf_72 w
  · replace w := w.2 z
    refine zm_aload_n C rfl 0 rfl dX4_numberOf_17 ?_
    refine zm_getR C ff_X4_9 dX4_numberOf_18 w (fun v1 w => ?_)
    refine zm_iload_n C rfl 3 rfl dX4_numberOf_21 ?_
    refine zm_ldI C dX4_numberOf_22 w (fun v2 w => ?_)
    refine zm_iconst (v := nI 1) C (by decide) dX4_numberOf_23 ?_
    refine zm_isub C dX4_numberOf_24 ?_
    refine zm_istore (L' := [(0, .ref a0), (1, .ref a1), (2, .int i2), (3, .int i3), (4, .int i4), (5, .int (v2 - (nI 1)))]) C (by decide) [1, 2, 3, 4, 5, 0] dX4_numberOf_25 rfl ?_
    refine zm_iload C 5 rfl dX4_numberOf_27 ?_
    refine zm_if_ge (tgt := 39) C dX4_numberOf_29 (by decide) (fun z => ?_) (fun z => ?_)
    · replace w := w.1 z
      refine zm_aload_n C rfl 1 rfl dX4_numberOf_39 ?_
      refine zm_aload_n C rfl 0 rfl dX4_numberOf_40 ?_
      refine zm_getR C ff_X4_15 dX4_numberOf_41 w (fun v3 w => ?_)
      refine zm_iload C 5 rfl dX4_numberOf_44 ?_
      refine zm_ldI C dX4_numberOf_46 w (fun v4 w => ?_)
      refine zm_iload_n C rfl 2 rfl dX4_numberOf_47 ?_
      obtain ⟨wr, w⟩ := w
      refine zm_Vi (As := [.int v4, .int i2]) (rest := []) C M_X5_areSame sv_X4_30 rfl dX4_numberOf_48 rfl (Nat.le_of_ble_eq_true rfl) (by decide) (by decide) (by show nc + 0 ≤ 0; omega) (by show ns + 0 ≤ 0; omega) wr w (fun v5 h1 w => ?_)
      refine zm_if_eq (tgt := 57) C dX4_numberOf_51 (by decide) (fun z => ?_) (fun z => ?_)
      · replace w := w.1 z
        refine zm_iload_n C rfl 3 rfl dX4_numberOf_57 ?_
        refine zm_iconst (v := nI 1) C (by decide) dX4_numberOf_58 ?_
        refine zm_iadd C dX4_numberOf_59 ?_
        refine zm_sipush (v := nI 2047) C (by decide) dX4_numberOf_60 ?_
        refine zm_iand C dX4_numberOf_63 ?_
        refine zm_istore_n (L' := [(0, .ref a0), (1, .ref a1), (2, .int i2), (3, .int ((i3 + (nI 1)) &&& (nI 2047))), (4, .int i4), (5, .int (v2 - (nI 1)))]) C rfl (by decide) [1, 2, 3, 0, 4, 5] dX4_numberOf_64 rfl ?_
        refine zm_iinc (L' := [(0, .ref a0), (1, .ref a1), (2, .int i2), (3, .int ((i3 + (nI 1)) &&& (nI 2047))), (4, .int (i4 + (nI 1))), (5, .int (v2 - (nI 1)))]) C (by decide) 4 [1, 2, 3, 4, 0, 5] dX4_numberOf_65 rfl rfl rfl ?_
        refine zm_goto (tgt := 9) C dX4_numberOf_68 (by decide) ?_
        exact zm_loc [0, 1, 2, 3, 4] rfl w
      · replace w := w.2 z
        refine zm_iload C 5 rfl dX4_numberOf_54 ?_
        exact zm_ireturn C Rt (by show nc ≤ 0; omega) (by show ns ≤ 0; omega) rfl dX4_numberOf_56 w
    · replace w := w.2 z
      refine zm_aload_n C rfl 0 rfl dX4_numberOf_32 ?_
      refine zm_iload_n C rfl 3 rfl dX4_numberOf_33 ?_
      refine zm_iload_n C rfl 2 rfl dX4_numberOf_34 ?_
      obtain ⟨wr, w⟩ := w
      refine zm_Vi (As := [.int i3, .int i2]) (rest := []) C M_X4_enter sv_X4_26 rfl dX4_numberOf_35 rfl (Nat.le_of_ble_eq_true rfl) (by decide) (by decide) (by show nc + 0 ≤ 0; omega) (by show ns + 0 ≤ 0; omega) wr w (fun v6 h2 w => ?_)
      exact zm_ireturn C Rt (by show nc ≤ 0; omega) (by show ns ≤ 0; omega) rfl dX4_numberOf_38 w
set_option maxRecDepth 20000 in
theorem B_X4_enter_0 {E : zm_E} {K : zm_K} {Post : zm_Po} {nc ns : Nat} (C : zm_Cx E K cX4_enter RX4 1 0 0 0 3) (Rt : zm_Rt E Post 0 0 (some .int)) {a0 : Nat} {i1 : Int32} {i2 : Int32} {h : zm_H} (hnc : nc ≤ 0) (hns : ns ≤ 0) (w : zm_gI h a0 4 2 fun v1 => (v1 < (nI 1000) → zm_gR h a0 4 1 fun v2 => zm_gI h a0 4 2 fun v3 => zm_sI K h v2 v3 i2 fun h1 => zm_gI h1 a0 4 2 fun v4 => zm_pf h1 a0 4 2 (.int (v4 + (nI 1))) fun h2 => zm_gR h2 a0 4 0 fun v5 => zm_gI h2 a0 4 2 fun v6 => zm_sI K h2 v5 i1 v6 fun h3 => zm_gI h3 a0 4 2 fun v7 => Post (some (.int (v7 - (nI 1)))) h3) ∧ (¬ v1 < (nI 1000) → Post (some (.int (nI 0))) h)) : zm_Go E nc ns 0 [(0, .ref a0), (1, .int i1), (2, .int i2)] [] h := by
  refine zm_aload_n C rfl 0 rfl dX4_enter_0 ?_
  refine zm_getI C ff_X4_18 dX4_enter_1 w (fun v1 w => ?_)
  refine zm_sipush (v := nI 1000) C (by decide) dX4_enter_4 ?_
  refine zm_icmp_lt (tgt := 12) C dX4_enter_7 (by decide) (fun z => ?_) (fun z => ?_)
  · replace w := w.1 z
    refine zm_aload_n C rfl 0 rfl dX4_enter_12 ?_
    refine zm_getR C ff_X4_15 dX4_enter_13 w (fun v2 w => ?_)
    refine zm_aload_n C rfl 0 rfl dX4_enter_16 ?_
    refine zm_getI C ff_X4_18 dX4_enter_17 w (fun v3 w => ?_)
    refine zm_iload_n C rfl 2 rfl dX4_enter_20 ?_
    refine zm_stI C dX4_enter_21 w (fun h1 w => ?_)
    refine zm_aload_n C rfl 0 rfl dX4_enter_22 ?_
    refine zm_dup C rfl dX4_enter_23 ?_
    refine zm_getI C ff_X4_18 dX4_enter_24 w (fun v4 w => ?_)
    refine zm_iconst (v := nI 1) C (by decide) dX4_enter_27 ?_
    refine zm_iadd C dX4_enter_28 ?_
    refine zm_put C ff_X4_18 ft_X4 fp_X4_4_2 rfl rfl dX4_enter_29 w (fun h2 w => ?_)
    refine zm_aload_n C rfl 0 rfl dX4_enter_32 ?_
    refine zm_getR C ff_X4_9 dX4_enter_33 w (fun v5 w => ?_)
    refine zm_iload_n C rfl 1 rfl dX4_enter_36 ?_
    refine zm_aload_n C rfl 0 rfl dX4_enter_37 ?_
    refine zm_getI C ff_X4_18 dX4_enter_38 w (fun v6 w => ?_)
    refine zm_stI C dX4_enter_41 w (fun h3 w => ?_)
    refine zm_aload_n C rfl 0 rfl dX4_enter_42 ?_
    refine zm_getI C ff_X4_18 dX4_enter_43 w (fun v7 w => ?_)
    refine zm_iconst (v := nI 1) C (by decide) dX4_enter_46 ?_
    refine zm_isub C dX4_enter_47 ?_
    exact zm_ireturn C Rt (by show nc ≤ 0; omega) (by show ns ≤ 0; omega) rfl dX4_enter_48 w
  · replace w := w.2 z
    refine zm_iconst (v := nI 0) C (by decide) dX4_enter_10 ?_
    exact zm_ireturn C Rt (by show nc ≤ 0; omega) (by show ns ≤ 0; omega) rfl dX4_enter_11 w
set_option maxRecDepth 20000 in
theorem B_X4_slotOf_0 {E : zm_E} {K : zm_K} {Post : zm_Po} {nc ns : Nat} (C : zm_Cx E K cX4_slotOf RX4 3 42 0 0 5) (Rt : zm_Rt E Post 0 0 (some .int)) {a0 : Nat} {i1 : Int32} {h : zm_H} (hnc : nc ≤ 0) (hns : ns ≤ 0) (w : zm_rc h a0 5 ∧ zm_ci K M_X5_lengthOf [.ref a0, .int i1] h fun v1 h1 => zm_Go E nc ns 11 [(0, .ref a0), (1, .int i1), (2, .int (nI 0)), (3, .int v1), (4, .int (nI 0))] [] h1) : zm_Go E nc ns 0 [(0, .ref a0), (1, .int i1)] [] h := by
  refine zm_iconst (v := nI 0) C (by decide) dX4_slotOf_0 ?_
  refine zm_istore_n (L' := [(0, .ref a0), (1, .int i1), (2, .int (nI 0))]) C rfl (by decide) [1, 2, 0] dX4_slotOf_1 rfl ?_
  refine zm_aload_n C rfl 0 rfl dX4_slotOf_2 ?_
  refine zm_iload_n C rfl 1 rfl dX4_slotOf_3 ?_
  obtain ⟨wr, w⟩ := w
  refine zm_Vi (As := [.int i1]) (rest := []) C M_X5_lengthOf sv_X4_36 rfl dX4_slotOf_4 rfl (Nat.le_of_ble_eq_true rfl) (by decide) (by decide) (by show nc + 0 ≤ 0; omega) (by show ns + 0 ≤ 0; omega) wr w (fun v1 h1 w => ?_)
  refine zm_istore_n (L' := [(0, .ref a0), (1, .int i1), (2, .int (nI 0)), (3, .int v1)]) C rfl (by decide) [1, 2, 3, 0] dX4_slotOf_7 rfl ?_
  refine zm_iconst (v := nI 0) C (by decide) dX4_slotOf_8 ?_
  refine zm_istore (L' := [(0, .ref a0), (1, .int i1), (2, .int (nI 0)), (3, .int v1), (4, .int (nI 0))]) C (by decide) [1, 2, 3, 4, 0] dX4_slotOf_9 rfl ?_
  exact w
set_option maxRecDepth 20000 in
theorem B_X4_slotOf_11 {E : zm_E} {K : zm_K} {Post : zm_Po} {nc ns : Nat} (C : zm_Cx E K cX4_slotOf RX4 3 42 0 0 5) (Rt : zm_Rt E Post 0 0 (some .int)) {a0 : Nat} {i1 : Int32} {i2 : Int32} {i3 : Int32} {i4 : Int32} {h : zm_H} (hnc : nc ≤ 0) (hns : ns ≤ 0) (w : (i3 ≤ i4 → Post (some (.int ((((i2 * (-1640531535)).toUInt32 >>> ((nI 16).toUInt32 &&& Int32.toUInt32 31)).toInt32) &&& (nI 2047)))) h) ∧ (¬ i3 ≤ i4 → zm_gR h a0 5 0 fun v1 => zm_gR h a0 5 1 fun v2 => zm_ld K 1 h v2 i1 fun v3 => zm_ld K 0 h v1 (v3 + i4) fun v4 => zm_Go E nc ns 11 [(0, .ref a0), (1, .int i1), (2, .int ((i2 * (nI 31)) + v4)), (3, .int i3), (4, .int (i4 + (nI 1)))] [] h)) : zm_Go E nc ns 11 [(0, .ref a0), (1, .int i1), (2, .int i2), (3, .int i3), (4, .int i4)] [] h := by
  refine zm_iload C 4 rfl dX4_slotOf_11 ?_
  refine zm_iload_n C rfl 3 rfl dX4_slotOf_13 ?_
  refine zm_icmp_ge (tgt := 43) C dX4_slotOf_14 (by decide) (fun z => ?_) (fun z => ?_)
  · replace w := w.1 z
    refine zm_iload_n C rfl 2 rfl dX4_slotOf_43 ?_
    refine zm_ldc (v := (-1640531535)) C (zm_inG (by decide +kernel) rfl) dX4_slotOf_44 ?_
    refine zm_imul C dX4_slotOf_46 ?_
    refine zm_istore_n (L' := [(0, .ref a0), (1, .int i1), (2, .int (i2 * (-1640531535))), (3, .int i3), (4, .int i4)]) C rfl (by decide) [1, 2, 0, 3, 4] dX4_slotOf_47 rfl ?_
    refine zm_iload_n C rfl 2 rfl dX4_slotOf_48 ?_
    refine zm_bipush (v := nI 16) C (by decide) dX4_slotOf_49 ?_
    refine zm_iushr C dX4_slotOf_51 ?_
    refine zm_sipush (v := nI 2047) C (by decide) dX4_slotOf_52 ?_
    refine zm_iand C dX4_slotOf_55 ?_
    exact zm_ireturn C Rt (by show nc ≤ 0; omega) (by show ns ≤ 0; omega) rfl dX4_slotOf_56 w
  · replace w := w.2 z
    refine zm_iload_n C rfl 2 rfl dX4_slotOf_17 ?_
    refine zm_bipush (v := nI 31) C (by decide) dX4_slotOf_18 ?_
    refine zm_imul C dX4_slotOf_20 ?_
    refine zm_aload_n C rfl 0 rfl dX4_slotOf_21 ?_
    refine zm_getR C ff_X4_40 dX4_slotOf_22 w (fun v1 w => ?_)
    refine zm_aload_n C rfl 0 rfl dX4_slotOf_25 ?_
    refine zm_getR C ff_X4_44 dX4_slotOf_26 w (fun v2 w => ?_)
    refine zm_iload_n C rfl 1 rfl dX4_slotOf_29 ?_
    refine zm_ldI C dX4_slotOf_30 w (fun v3 w => ?_)
    refine zm_iload C 4 rfl dX4_slotOf_31 ?_
    refine zm_iadd C dX4_slotOf_33 ?_
    refine zm_ldB C dX4_slotOf_34 w (fun v4 w => ?_)
    refine zm_iadd C dX4_slotOf_35 ?_
    refine zm_istore_n (L' := [(0, .ref a0), (1, .int i1), (2, .int ((i2 * (nI 31)) + v4)), (3, .int i3), (4, .int i4)]) C rfl (by decide) [1, 2, 0, 3, 4] dX4_slotOf_36 rfl ?_
    refine zm_iinc (L' := [(0, .ref a0), (1, .int i1), (2, .int ((i2 * (nI 31)) + v4)), (3, .int i3), (4, .int (i4 + (nI 1)))]) C (by decide) 4 [1, 2, 3, 4, 0] dX4_slotOf_37 rfl rfl rfl ?_
    refine zm_goto (tgt := 11) C dX4_slotOf_40 (by decide) ?_
    exact w
set_option maxRecDepth 20000 in
theorem B_X5_init_0 {E : zm_E} {K : zm_K} {Post : zm_Po} {nc ns : Nat} (C : zm_Cx E K cX5_init RX5 1 26 2 21001 1) (Rt : zm_Rt E Post 2 21001 none) (hin : zm_in E) {a0 : Nat} {h : zm_H} (hnc : nc + 1 + 1 ≤ 2) (hns : ns + 20000 + 1001 ≤ 21001) (w : ¬ (nI 20000) < 0 ∧ 20000 * componentBytes .byte ≤ 536870912 ∧ ns + 20000 ≤ 21001 ∧ ∀ v1, h v1 = none → zm_pf (zm_set h v1 (.inl (K.2.2 0, 20000, .inl (fun _ => 0)))) a0 5 0 (.ref v1) fun h1 => ¬ (nI 1001) < 0 ∧ 1001 * componentBytes .int ≤ 536870912 ∧ (ns + 20000) + 1001 ≤ 21001 ∧ ∀ v2, h1 v2 = none → zm_pf (zm_set h1 v2 (.inl (K.2.2 1, 1001, .inl (fun _ => 0)))) a0 5 1 (.ref v2) fun h2 => Post none h2) : zm_Go E nc ns 0 [(0, .ref a0)] [] h := by
  refine zm_aload_n C rfl 0 rfl dX5_init_0 ?_
  refine zm_objInit C (zm_inG (by decide +kernel) rfl) (zm_inG (by decide +kernel) rfl) zi_objInit (by decide) (by decide) (Nat.le_of_ble_eq_true rfl) dX5_init_1 ?_
  refine zm_aload_n C rfl 0 rfl dX5_init_4 ?_
  refine zm_sipush (v := nI 20000) C (by decide) dX5_init_5 ?_
  obtain ⟨g1, g2, g3, w⟩ := w
  refine zm_newa (ty := .byte) (N := 20000) (a0 := (20000, .inl (fun _ => 0))) C 0 rfl (fun _ => rfl) (fun _ _ z => z) (zm_inG (by decide +kernel) rfl) (fun _ => rfl) dX5_init_8 g1 (by decide) g2 (by show nc + 1 ≤ 2; omega) g3 (fun v1 hq => ?_)
  replace w := w v1 hq
  refine zm_putQ C hin ff_X5_9 ft_X5 fp_X5_5_0 rfl rfl dX5_init_10 w (fun h1 w => ?_)
  refine zm_aload_n C rfl 0 rfl dX5_init_13 ?_
  refine zm_sipush (v := nI 1001) C (by decide) dX5_init_14 ?_
  obtain ⟨g1, g2, g3, w⟩ := w
  refine zm_newa (ty := .int) (N := 1001) (a0 := (1001, .inl (fun _ => 0))) C 1 rfl (fun _ => rfl) (fun _ _ z => z) (zm_inG (by decide +kernel) rfl) (fun _ => rfl) dX5_init_17 g1 (by decide) g2 (by show nc + 1 + 1 ≤ 2; omega) g3 (fun v2 hq => ?_)
  replace w := w v2 hq
  refine zm_putQ C hin ff_X5_15 ft_X5 fp_X5_5_1 rfl rfl dX5_init_19 w (fun h2 w => ?_)
  exact zm_return C Rt (by show nc + 1 + 1 ≤ 2; omega) (by show ns + 20000 + 1001 ≤ 21001; omega) dX5_init_22 w
set_option maxRecDepth 20000 in
theorem B_X5_has_0 {E : zm_E} {K : zm_K} {Post : zm_Po} {nc ns : Nat} (C : zm_Cx E K cX5_has RX5 1 0 0 0 2) (Rt : zm_Rt E Post 0 0 (some .boolean)) {a0 : Nat} {i1 : Int32} {h : zm_H} (hnc : nc ≤ 0) (hns : ns ≤ 0) (w : (i1 < 0 → narrow .boolean (.int (nI 0)) = .int (nI 0) ∧ Post (some (.int (nI 0))) h) ∧ (¬ i1 < 0 → zm_gI h a0 5 2 fun v1 => (v1 ≤ i1 → narrow .boolean (.int (nI 0)) = .int (nI 0) ∧ Post (some (.int (nI 0))) h) ∧ (¬ v1 ≤ i1 → narrow .boolean (.int (nI 1)) = .int (nI 1) ∧ Post (some (.int (nI 1))) h))) : zm_Go E nc ns 0 [(0, .ref a0), (1, .int i1)] [] h := by
  refine zm_iload_n C rfl 1 rfl dX5_has_0 ?_
  refine zm_if_lt (tgt := 16) C dX5_has_1 (by decide) (fun z => ?_) (fun z => ?_)
  · replace w := w.1 z
    refine zm_iconst (v := nI 0) C (by decide) dX5_has_16 ?_
    exact zm_ireturn C Rt (by show nc ≤ 0; omega) (by show ns ≤ 0; omega) w.1 dX5_has_17 w.2
  · replace w := w.2 z
    refine zm_iload_n C rfl 1 rfl dX5_has_4 ?_
    refine zm_aload_n C rfl 0 rfl dX5_has_5 ?_
    refine zm_getI C ff_X5_19 dX5_has_6 w (fun v1 w => ?_)
    refine zm_icmp_ge (tgt := 16) C dX5_has_9 (by decide) (fun z => ?_) (fun z => ?_)
    · replace w := w.1 z
      refine zm_iconst (v := nI 0) C (by decide) dX5_has_16 ?_
      exact zm_ireturn C Rt (by show nc ≤ 0; omega) (by show ns ≤ 0; omega) w.1 dX5_has_17 w.2
    · replace w := w.2 z
      refine zm_iconst (v := nI 1) C (by decide) dX5_has_12 ?_
      refine zm_goto (tgt := 17) C dX5_has_13 (by decide) ?_
      exact zm_ireturn C Rt (by show nc ≤ 0; omega) (by show ns ≤ 0; omega) w.1 dX5_has_17 w.2
set_option maxRecDepth 20000 in
theorem B_X5_total_0 {E : zm_E} {K : zm_K} {Post : zm_Po} {nc ns : Nat} (C : zm_Cx E K cX5_total RX5 1 0 0 0 1) (Rt : zm_Rt E Post 0 0 (some .int)) {a0 : Nat} {h : zm_H} (hnc : nc ≤ 0) (hns : ns ≤ 0) (w : zm_gR h a0 5 1 fun v1 => zm_gI h a0 5 2 fun v2 => zm_ld K 1 h v1 v2 fun v3 => Post (some (.int v3)) h) : zm_Go E nc ns 0 [(0, .ref a0)] [] h := by
  refine zm_aload_n C rfl 0 rfl dX5_total_0 ?_
  refine zm_getR C ff_X5_15 dX5_total_1 w (fun v1 w => ?_)
  refine zm_aload_n C rfl 0 rfl dX5_total_4 ?_
  refine zm_getI C ff_X5_19 dX5_total_5 w (fun v2 w => ?_)
  refine zm_ldI C dX5_total_8 w (fun v3 w => ?_)
  exact zm_ireturn C Rt (by show nc ≤ 0; omega) (by show ns ≤ 0; omega) rfl dX5_total_9 w
