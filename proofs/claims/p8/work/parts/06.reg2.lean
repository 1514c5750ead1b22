set_option maxRecDepth 20000 in
theorem B_X5_lengthOf_0 {E : zm_E} {K : zm_K} {Post : zm_Po} {nc ns : Nat} (C : zm_Cx E K cX5_lengthOf RX5 2 21 0 0 2) (Rt : zm_Rt E Post 0 0 (some .int)) {a0 : Nat} {i1 : Int32} {h : zm_H} (hnc : nc ≤ 0) (hns : ns ≤ 0) (w : zm_rc h a0 5 ∧ zm_ci K M_X5_has [.ref a0, .int i1] h fun v1 h1 => (v1 = 0 → Post (some (.int (nI 0))) h1) ∧ (¬ v1 = 0 → zm_gR h1 a0 5 1 fun v2 => zm_ld K 1 h1 v2 (i1 + (nI 1)) fun v3 => zm_gR h1 a0 5 1 fun v4 => zm_ld K 1 h1 v4 i1 fun v5 => Post (some (.int (v3 - v5))) h1)) : zm_Go E nc ns 0 [(0, .ref a0), (1, .int i1)] [] h := by
  refine zm_aload_n C rfl 0 rfl dX5_lengthOf_0 ?_
  refine zm_iload_n C rfl 1 rfl dX5_lengthOf_1 ?_
  obtain ⟨wr, w⟩ := w
  refine zm_Vi (As := [.int i1]) (rest := []) C M_X5_has sv_X5_23 rfl dX5_lengthOf_2 rfl (Nat.le_of_ble_eq_true rfl) (by decide) (by decide) (by show nc + 0 ≤ 0; omega) (by show ns + 0 ≤ 0; omega) wr w (fun v1 h1 w => ?_)
  refine zm_if_eq (tgt := 26) C dX5_lengthOf_5 (by decide) (fun z => ?_) (fun z => ?_)
  · replace w := w.1 z
    refine zm_iconst (v := nI 0) C (by decide) dX5_lengthOf_26 ?_
    exact zm_ireturn C Rt (by show nc ≤ 0; omega) (by show ns ≤ 0; omega) rfl dX5_lengthOf_27 w
  · replace w := w.2 z
    refine zm_aload_n C rfl 0 rfl dX5_lengthOf_8 ?_
    refine zm_getR C ff_X5_15 dX5_lengthOf_9 w (fun v2 w => ?_)
    refine zm_iload_n C rfl 1 rfl dX5_lengthOf_12 ?_
    refine zm_iconst (v := nI 1) C (by decide) dX5_lengthOf_13 ?_
    refine zm_iadd C dX5_lengthOf_14 ?_
    refine zm_ldI C dX5_lengthOf_15 w (fun v3 w => ?_)
    refine zm_aload_n C rfl 0 rfl dX5_lengthOf_16 ?_
    refine zm_getR C ff_X5_15 dX5_lengthOf_17 w (fun v4 w => ?_)
    refine zm_iload_n C rfl 1 rfl dX5_lengthOf_20 ?_
    refine zm_ldI C dX5_lengthOf_21 w (fun v5 w => ?_)
    refine zm_isub C dX5_lengthOf_22 ?_
    refine zm_goto (tgt := 27) C dX5_lengthOf_23 (by decide) ?_
    exact zm_ireturn C Rt (by show nc ≤ 0; omega) (by show ns ≤ 0; omega) rfl dX5_lengthOf_27 w
set_option maxRecDepth 20000 in
theorem B_X5_holdsMore_0 {E : zm_E} {K : zm_K} {Post : zm_Po} {nc ns : Nat} (C : zm_Cx E K cX5_holdsMore RX5 2 20 0 0 2) (Rt : zm_Rt E Post 0 0 (some .boolean)) {a0 : Nat} {i1 : Int32} {h : zm_H} (hnc : nc ≤ 0) (hns : ns ≤ 0) (w : zm_gI h a0 5 2 fun v1 => ((nI 1000) ≤ v1 → narrow .boolean (.int (nI 0)) = .int (nI 0) ∧ Post (some (.int (nI 0))) h) ∧ (¬ (nI 1000) ≤ v1 → zm_rc h a0 5 ∧ zm_ci K M_X5_total [.ref a0] h fun v2 h1 => (((nI 20000) - v2) < i1 → narrow .boolean (.int (nI 0)) = .int (nI 0) ∧ Post (some (.int (nI 0))) h1) ∧ (¬ ((nI 20000) - v2) < i1 → narrow .boolean (.int (nI 1)) = .int (nI 1) ∧ Post (some (.int (nI 1))) h1))) : zm_Go E nc ns 0 [(0, .ref a0), (1, .int i1)] [] h := by
  refine zm_aload_n C rfl 0 rfl dX5_holdsMore_0 ?_
  refine zm_getI C ff_X5_19 dX5_holdsMore_1 w (fun v1 w => ?_)
  refine zm_sipush (v := nI 1000) C (by decide) dX5_holdsMore_4 ?_
  refine zm_icmp_ge (tgt := 26) C dX5_holdsMore_7 (by decide) (fun z => ?_) (fun z => ?_)
  · replace w := w.1 z
    refine zm_iconst (v := nI 0) C (by decide) dX5_holdsMore_26 ?_
    exact zm_ireturn C Rt (by show nc ≤ 0; omega) (by show ns ≤ 0; omega) w.1 dX5_holdsMore_27 w.2
  · replace w := w.2 z
    refine zm_iload_n C rfl 1 rfl dX5_holdsMore_10 ?_
    refine zm_sipush (v := nI 20000) C (by decide) dX5_holdsMore_11 ?_
    refine zm_aload_n C rfl 0 rfl dX5_holdsMore_14 ?_
    obtain ⟨wr, w⟩ := w
    refine zm_Vi (As := []) (rest := [.int (nI 20000), .int i1]) C M_X5_total sv_X5_27 rfl dX5_holdsMore_15 rfl (Nat.le_of_ble_eq_true rfl) (by decide) (by decide) (by show nc + 0 ≤ 0; omega) (by show ns + 0 ≤ 0; omega) wr w (fun v2 h1 w => ?_)
    refine zm_isub C dX5_holdsMore_18 ?_
    refine zm_icmp_gt (tgt := 26) C dX5_holdsMore_19 (by decide) (fun z => ?_) (fun z => ?_)
    · replace w := w.1 z
      refine zm_iconst (v := nI 0) C (by decide) dX5_holdsMore_26 ?_
      exact zm_ireturn C Rt (by show nc ≤ 0; omega) (by show ns ≤ 0; omega) w.1 dX5_holdsMore_27 w.2
    · replace w := w.2 z
      refine zm_iconst (v := nI 1) C (by decide) dX5_holdsMore_22 ?_
      refine zm_goto (tgt := 27) C dX5_holdsMore_23 (by decide) ?_
      exact zm_ireturn C Rt (by show nc ≤ 0; omega) (by show ns ≤ 0; omega) w.1 dX5_holdsMore_27 w.2
set_option maxRecDepth 20000 in
theorem B_X5_append_0 {E : zm_E} {K : zm_K} {Post : zm_Po} {nc ns : Nat} (C : zm_Cx E K cX5_append RX5 3 42 0 0 6) (Rt : zm_Rt E Post 0 0 none) {a0 : Nat} {i1 : Int32} {a2 : Nat} {i3 : Int32} {i4 : Int32} {h : zm_H} (hnc : nc ≤ 0) (hns : ns ≤ 0) (w : (i1 < 0 → Post none h) ∧ (¬ i1 < 0 → zm_gI h a0 5 2 fun v1 => zm_rc h a0 5 ∧ zm_ci K M_X5_lengthOf [.ref a0, .int (v1 - (nI 1))] h fun v2 h1 => (v2 < i1 → Post none h1) ∧ (¬ v2 < i1 → zm_rc h1 a0 5 ∧ zm_ci K M_X5_holdsMore [.ref a0, .int (i1 + i4)] h1 fun v3 h2 => (¬ v3 = 0 → (i3 < 0 → Post none h2) ∧ (¬ i3 < 0 → (i4 < 0 → Post none h2) ∧ (¬ i4 < 0 → zm_al K 0 h2 a2 fun v4 => (i4 ≤ (v4 - i3) → zm_rc h2 a0 5 ∧ zm_ci K M_X5_total [.ref a0] h2 fun v5 h3 => (i1 ≤ 0 → zm_gR h3 a0 5 0 fun v6 => zm_cp K h3 a2 i3 v6 (v5 + i1) i4 fun h4 => zm_gI h4 a0 5 2 fun v7 => zm_pf h4 a0 5 2 (.int (v7 + (nI 1))) fun h5 => zm_gR h5 a0 5 1 fun v8 => zm_gI h5 a0 5 2 fun v9 => zm_sI K h5 v8 v9 ((v5 + i1) + i4) fun h6 => Post none h6) ∧ (¬ i1 ≤ 0 → zm_gR h3 a0 5 0 fun v10 => zm_gR h3 a0 5 1 fun v11 => zm_gI h3 a0 5 2 fun v12 => zm_ld K 1 h3 v11 (v12 - (nI 1)) fun v13 => zm_gR h3 a0 5 0 fun v14 => zm_cp K h3 v10 v13 v14 v5 i1 fun h7 => zm_gR h7 a0 5 0 fun v15 => zm_cp K h7 a2 i3 v15 (v5 + i1) i4 fun h8 => zm_gI h8 a0 5 2 fun v16 => zm_pf h8 a0 5 2 (.int (v16 + (nI 1))) fun h9 => zm_gR h9 a0 5 1 fun v17 => zm_gI h9 a0 5 2 fun v18 => zm_sI K h9 v17 v18 ((v5 + i1) + i4) fun h10 => Post none h10)) ∧ (¬ i4 ≤ (v4 - i3) → Post none h2)))) ∧ (v3 = 0 → Post none h2)))) : zm_Go E nc ns 0 [(0, .ref a0), (1, .int i1), (2, .ref a2), (3, .int i3), (4, .int i4)] [] h := by
  refine zm_iload_n C rfl 1 rfl dX5_append_0 ?_
  refine zm_if_lt (tgt := 29) C dX5_append_1 (by decide) (fun z => ?_) (fun z => ?_)
  · replace w := w.1 z
    exact zm_return C Rt (by show nc ≤ 0; omega) (by show ns ≤ 0; omega) dX5_append_29 w
  · replace w := w.2 z
    refine zm_iload_n C rfl 1 rfl dX5_append_4 ?_
    refine zm_aload_n C rfl 0 rfl dX5_append_5 ?_
    refine zm_aload_n C rfl 0 rfl dX5_append_6 ?_
    refine zm_getI C ff_X5_19 dX5_append_7 w (fun v1 w => ?_)
    refine zm_iconst (v := nI 1) C (by decide) dX5_append_10 ?_
    refine zm_isub C dX5_append_11 ?_
    obtain ⟨wr, w⟩ := w
    refine zm_Vi (As := [.int (v1 - (nI 1))]) (rest := [.int i1]) C M_X5_lengthOf sv_X5_31 rfl dX5_append_12 rfl (Nat.le_of_ble_eq_true rfl) (by decide) (by decide) (by show nc + 0 ≤ 0; omega) (by show ns + 0 ≤ 0; omega) wr w (fun v2 h1 w => ?_)
    refine zm_icmp_gt (tgt := 29) C dX5_append_15 (by decide) (fun z => ?_) (fun z => ?_)
    · replace w := w.1 z
      exact zm_return C Rt (by show nc ≤ 0; omega) (by show ns ≤ 0; omega) dX5_append_29 w
    · replace w := w.2 z
      refine zm_aload_n C rfl 0 rfl dX5_append_18 ?_
      refine zm_iload_n C rfl 1 rfl dX5_append_19 ?_
      refine zm_iload C 4 rfl dX5_append_20 ?_
      refine zm_iadd C dX5_append_22 ?_
      obtain ⟨wr, w⟩ := w
      refine zm_Vi (As := [.int (i1 + i4)]) (rest := []) C M_X5_holdsMore sv_X5_35 rfl dX5_append_23 rfl (Nat.le_of_ble_eq_true rfl) (by decide) (by decide) (by show nc + 0 ≤ 0; omega) (by show ns + 0 ≤ 0; omega) wr w (fun v3 h2 w => ?_)
      refine zm_if_ne (tgt := 30) C dX5_append_26 (by decide) (fun z => ?_) (fun z => ?_)
      · replace w := w.1 z
        refine zm_iload_n C rfl 3 rfl dX5_append_30 ?_
        refine zm_if_lt (tgt := 48) C dX5_append_31 (by decide) (fun z => ?_) (fun z => ?_)
        · replace w := w.1 z
          exact zm_return C Rt (by show nc ≤ 0; omega) (by show ns ≤ 0; omega) dX5_append_48 w
        · replace w := w.2 z
          refine zm_iload C 4 rfl dX5_append_34 ?_
          refine zm_if_lt (tgt := 48) C dX5_append_36 (by decide) (fun z => ?_) (fun z => ?_)
          · replace w := w.1 z
            exact zm_return C Rt (by show nc ≤ 0; omega) (by show ns ≤ 0; omega) dX5_append_48 w
          · replace w := w.2 z
            refine zm_iload C 4 rfl dX5_append_39 ?_
            refine zm_aload_n C rfl 2 rfl dX5_append_41 ?_
            refine zm_lenA (t := 0) C (by decide) dX5_append_42 w (fun v4 w => ?_)
            refine zm_iload_n C rfl 3 rfl dX5_append_43 ?_
            refine zm_isub C dX5_append_44 ?_
            refine zm_icmp_le (tgt := 49) C dX5_append_45 (by decide) (fun z => ?_) (fun z => ?_)
            · replace w := w.1 z
              refine zm_aload_n C rfl 0 rfl dX5_append_49 ?_
              obtain ⟨wr, w⟩ := w
              refine zm_Vi (As := []) (rest := []) C M_X5_total sv_X5_27 rfl dX5_append_50 rfl (Nat.le_of_ble_eq_true rfl) (by decide) (by decide) (by show nc + 0 ≤ 0; omega) (by show ns + 0 ≤ 0; omega) wr w (fun v5 h3 w => ?_)
              refine zm_istore (L' := [(0, .ref a0), (1, .int i1), (2, .ref a2), (3, .int i3), (4, .int i4), (5, .int v5)]) C (by decide) [1, 2, 3, 4, 5, 0] dX5_append_53 rfl ?_
              refine zm_iload_n C rfl 1 rfl dX5_append_55 ?_
              refine zm_if_le (tgt := 84) C dX5_append_56 (by decide) (fun z => ?_) (fun z => ?_)
              · replace w := w.1 z
                refine zm_aload_n C rfl 2 rfl dX5_append_84 ?_
                refine zm_iload_n C rfl 3 rfl dX5_append_85 ?_
                refine zm_aload_n C rfl 0 rfl dX5_append_86 ?_
                refine zm_getR C ff_X5_9 dX5_append_87 w (fun v6 w => ?_)
                refine zm_iload C 5 rfl dX5_append_90 ?_
                refine zm_iload_n C rfl 1 rfl dX5_append_92 ?_
                refine zm_iadd C dX5_append_93 ?_
                refine zm_iload C 4 rfl dX5_append_94 ?_
                refine zm_copy C (zm_inG (by decide +kernel) rfl) (zm_inG (by decide +kernel) rfl) (zm_inG (by decide +kernel) rfl) (zm_inG (by decide +kernel) rfl) (by decide) (by decide) (Nat.le_of_ble_eq_true rfl) dX5_append_96 w (fun h4 w => ?_)
                refine zm_aload_n C rfl 0 rfl dX5_append_99 ?_
                refine zm_dup C rfl dX5_append_100 ?_
                refine zm_getI C ff_X5_19 dX5_append_101 w (fun v7 w => ?_)
                refine zm_iconst (v := nI 1) C (by decide) dX5_append_104 ?_
                refine zm_iadd C dX5_append_105 ?_
                refine zm_put C ff_X5_19 ft_X5 fp_X5_5_2 rfl rfl dX5_append_106 w (fun h5 w => ?_)
                refine zm_aload_n C rfl 0 rfl dX5_append_109 ?_
                refine zm_getR C ff_X5_15 dX5_append_110 w (fun v8 w => ?_)
                refine zm_aload_n C rfl 0 rfl dX5_append_113 ?_
                refine zm_getI C ff_X5_19 dX5_append_114 w (fun v9 w => ?_)
                refine zm_iload C 5 rfl dX5_append_117 ?_
                refine zm_iload_n C rfl 1 rfl dX5_append_119 ?_
                refine zm_iadd C dX5_append_120 ?_
                refine zm_iload C 4 rfl dX5_append_121 ?_
                refine zm_iadd C dX5_append_123 ?_
                refine zm_stI C dX5_append_124 w (fun h6 w => ?_)
                exact zm_return C Rt (by show nc ≤ 0; omega) (by show ns ≤ 0; omega) dX5_append_125 w
              · replace w := w.2 z
                refine zm_aload_n C rfl 0 rfl dX5_append_59 ?_
                refine zm_getR C ff_X5_9 dX5_append_60 w (fun v10 w => ?_)
                refine zm_aload_n C rfl 0 rfl dX5_append_63 ?_
                refine zm_getR C ff_X5_15 dX5_append_64 w (fun v11 w => ?_)
                refine zm_aload_n C rfl 0 rfl dX5_append_67 ?_
                refine zm_getI C ff_X5_19 dX5_append_68 w (fun v12 w => ?_)
                refine zm_iconst (v := nI 1) C (by decide) dX5_append_71 ?_
                refine zm_isub C dX5_append_72 ?_
                refine zm_ldI C dX5_append_73 w (fun v13 w => ?_)
                refine zm_aload_n C rfl 0 rfl dX5_append_74 ?_
                refine zm_getR C ff_X5_9 dX5_append_75 w (fun v14 w => ?_)
                refine zm_iload C 5 rfl dX5_append_78 ?_
                refine zm_iload_n C rfl 1 rfl dX5_append_80 ?_
                refine zm_copy C (zm_inG (by decide +kernel) rfl) (zm_inG (by decide +kernel) rfl) (zm_inG (by decide +kernel) rfl) (zm_inG (by decide +kernel) rfl) (by decide) (by decide) (Nat.le_of_ble_eq_true rfl) dX5_append_81 w (fun h7 w => ?_)
                refine zm_aload_n C rfl 2 rfl dX5_append_84 ?_
                refine zm_iload_n C rfl 3 rfl dX5_append_85 ?_
                refine zm_aload_n C rfl 0 rfl dX5_append_86 ?_
                refine zm_getR C ff_X5_9 dX5_append_87 w (fun v15 w => ?_)
                refine zm_iload C 5 rfl dX5_append_90 ?_
                refine zm_iload_n C rfl 1 rfl dX5_append_92 ?_
                refine zm_iadd C dX5_append_93 ?_
                refine zm_iload C 4 rfl dX5_append_94 ?_
                refine zm_copy C (zm_inG (by decide +kernel) rfl) (zm_inG (by decide +kernel) rfl) (zm_inG (by decide +kernel) rfl) (zm_inG (by decide +kernel) rfl) (by decide) (by decide) (Nat.le_of_ble_eq_true rfl) dX5_append_96 w (fun h8 w => ?_)
                refine zm_aload_n C rfl 0 rfl dX5_append_99 ?_
                refine zm_dup C rfl dX5_append_100 ?_
                refine zm_getI C ff_X5_19 dX5_append_101 w (fun v16 w => ?_)
                refine zm_iconst (v := nI 1) C (by decide) dX5_append_104 ?_
                refine zm_iadd C dX5_append_105 ?_
                refine zm_put C ff_X5_19 ft_X5 fp_X5_5_2 rfl rfl dX5_append_106 w (fun h9 w => ?_)
                refine zm_aload_n C rfl 0 rfl dX5_append_109 ?_
                refine zm_getR C ff_X5_15 dX5_append_110 w (fun v17 w => ?_)
                refine zm_aload_n C rfl 0 rfl dX5_append_113 ?_
                refine zm_getI C ff_X5_19 dX5_append_114 w (fun v18 w => ?_)
                refine zm_iload C 5 rfl dX5_append_117 ?_
                refine zm_iload_n C rfl 1 rfl dX5_append_119 ?_
                refine zm_iadd C dX5_append_120 ?_
                refine zm_iload C 4 rfl dX5_append_121 ?_
                refine zm_iadd C dX5_append_123 ?_
                refine zm_stI C dX5_append_124 w (fun h10 w => ?_)
                exact zm_return C Rt (by show nc ≤ 0; omega) (by show ns ≤ 0; omega) dX5_append_125 w
            · replace w := w.2 z
              exact zm_return C Rt (by show nc ≤ 0; omega) (by show ns ≤ 0; omega) dX5_append_48 w
      · replace w := w.2 z
        exact zm_return C Rt (by show nc ≤ 0; omega) (by show ns ≤ 0; omega) dX5_append_29 w
set_option maxRecDepth 20000 in
theorem B_X5_commonWithLast_0 {E : zm_E} {K : zm_K} {Post : zm_Po} {nc ns : Nat} (C : zm_Cx E K cX5_commonWithLast RX5 3 42 0 0 4) (Rt : zm_Rt E Post 0 0 (some .int)) {a0 : Nat} {i1 : Int32} {h : zm_H} (hnc : nc ≤ 0) (hns : ns ≤ 0) (w : zm_rc h a0 5 ∧ zm_ci K M_X5_has [.ref a0, .int i1] h fun v1 h1 => (v1 = 0 → Post (some (.int (nI 0))) h1) ∧ (¬ v1 = 0 → (¬ i1 = 0 → zm_rc h1 a0 5 ∧ zm_ci K M_X5_lengthOf [.ref a0, .int (i1 - (nI 1))] h1 fun v2 h2 => zm_rc h2 a0 5 ∧ zm_ci K M_X5_lengthOf [.ref a0, .int i1] h2 fun v3 h3 => zm_Go E nc ns 32 [(0, .ref a0), (1, .int i1), (2, .int (if v3 < v2 then v3 else v2)), (3, .int (nI 0))] [] h3) ∧ (i1 = 0 → Post (some (.int (nI 0))) h1))) : zm_Go E nc ns 0 [(0, .ref a0), (1, .int i1)] [] h := by
  refine zm_aload_n C rfl 0 rfl dX5_commonWithLast_0 ?_
  refine zm_iload_n C rfl 1 rfl dX5_commonWithLast_1 ?_
  obtain ⟨wr, w⟩ := w
  refine zm_Vi (As := [.int i1]) (rest := []) C M_X5_has sv_X5_23 rfl dX5_commonWithLast_2 rfl (Nat.le_of_ble_eq_true rfl) (by decide) (by decide) (by show nc + 0 ≤ 0; omega) (by show ns + 0 ≤ 0; omega) wr w (fun v1 h1 w => ?_)
  refine zm_if_eq (tgt := 12) C dX5_commonWithLast_5 (by decide) (fun z => ?_) (fun z => ?_)
  · replace w := w.1 z
    refine zm_iconst (v := nI 0) C (by decide) dX5_commonWithLast_12 ?_
    exact zm_ireturn C Rt (by show nc ≤ 0; omega) (by show ns ≤ 0; omega) rfl dX5_commonWithLast_13 w
  · replace w := w.2 z
    refine zm_iload_n C rfl 1 rfl dX5_commonWithLast_8 ?_
    refine zm_if_ne (tgt := 14) C dX5_commonWithLast_9 (by decide) (fun z => ?_) (fun z => ?_)
    · replace w := w.1 z
      refine zm_aload_n C rfl 0 rfl dX5_commonWithLast_14 ?_
      refine zm_iload_n C rfl 1 rfl dX5_commonWithLast_15 ?_
      refine zm_iconst (v := nI 1) C (by decide) dX5_commonWithLast_16 ?_
      refine zm_isub C dX5_commonWithLast_17 ?_
      obtain ⟨wr, w⟩ := w
      refine zm_Vi (As := [.int (i1 - (nI 1))]) (rest := []) C M_X5_lengthOf sv_X5_31 rfl dX5_commonWithLast_18 rfl (Nat.le_of_ble_eq_true rfl) (by decide) (by decide) (by show nc + 0 ≤ 0; omega) (by show ns + 0 ≤ 0; omega) wr w (fun v2 h2 w => ?_)
      refine zm_aload_n C rfl 0 rfl dX5_commonWithLast_21 ?_
      refine zm_iload_n C rfl 1 rfl dX5_commonWithLast_22 ?_
      obtain ⟨wr, w⟩ := w
      refine zm_Vi (As := [.int i1]) (rest := [.int v2]) C M_X5_lengthOf sv_X5_31 rfl dX5_commonWithLast_23 rfl (Nat.le_of_ble_eq_true rfl) (by decide) (by decide) (by show nc + 0 ≤ 0; omega) (by show ns + 0 ≤ 0; omega) wr w (fun v3 h3 w => ?_)
      refine zm_mmin C (zm_inG (by decide +kernel) rfl) (zm_inG (by decide +kernel) rfl) (zm_inG (by decide +kernel) rfl) zi_min (by decide) (by decide) (Nat.le_of_ble_eq_true rfl) (by show nc ≤ 0; omega) (by show ns ≤ 0; omega) dX5_commonWithLast_26 ?_
      refine zm_istore_n (L' := [(0, .ref a0), (1, .int i1), (2, .int (if v3 < v2 then v3 else v2))]) C rfl (by decide) [1, 2, 0] dX5_commonWithLast_29 rfl ?_
      refine zm_iconst (v := nI 0) C (by decide) dX5_commonWithLast_30 ?_
      refine zm_istore_n (L' := [(0, .ref a0), (1, .int i1), (2, .int (if v3 < v2 then v3 else v2)), (3, .int (nI 0))]) C rfl (by decide) [1, 2, 3, 0] dX5_commonWithLast_31 rfl ?_
      exact w
    · replace w := w.2 z
      refine zm_iconst (v := nI 0) C (by decide) dX5_commonWithLast_12 ?_
      exact zm_ireturn C Rt (by show nc ≤ 0; omega) (by show ns ≤ 0; omega) rfl dX5_commonWithLast_13 w
set_option maxRecDepth 20000 in
theorem B_X5_commonWithLast_32 {E : zm_E} {K : zm_K} {Post : zm_Po} {nc ns : Nat} (C : zm_Cx E K cX5_commonWithLast RX5 3 42 0 0 4) (Rt : zm_Rt E Post 0 0 (some .int)) {a0 : Nat} {i1 : Int32} {i2 : Int32} {i3 : Int32} {h : zm_H} (hnc : nc ≤ 0) (hns : ns ≤ 0) (w : (i2 ≤ i3 → Post (some (.int i3)) h) ∧ (¬ i2 ≤ i3 → zm_gR h a0 5 0 fun v1 => zm_gR h a0 5 1 fun v2 => zm_ld K 1 h v2 (i1 - (nI 1)) fun v3 => zm_ld K 0 h v1 (v3 + i3) fun v4 => zm_gR h a0 5 0 fun v5 => zm_gR h a0 5 1 fun v6 => zm_ld K 1 h v6 i1 fun v7 => zm_ld K 0 h v5 (v7 + i3) fun v8 => (¬ v4 = v8 → Post (some (.int i3)) h) ∧ (v4 = v8 → zm_Go E nc ns 32 [(0, .ref a0), (1, .int i1), (2, .int i2), (3, .int (i3 + (nI 1)))] [] h))) : zm_Go E nc ns 32 [(0, .ref a0), (1, .int i1), (2, .int i2), (3, .int i3)] [] h := by
  refine zm_iload_n C rfl 3 rfl dX5_commonWithLast_32 ?_
  refine zm_iload_n C rfl 2 rfl dX5_commonWithLast_33 ?_
  refine zm_icmp_ge (tgt := 74) C dX5_commonWithLast_34 (by decide) (fun z => ?_) (fun z => ?_)
  · replace w := w.1 z
    refine zm_iload_n C rfl 3 rfl dX5_commonWithLast_74 ?_
    exact zm_ireturn C Rt (by show nc ≤ 0; omega) (by show ns ≤ 0; omega) rfl dX5_commonWithLast_75 w
  · replace w := w.2 z
    refine zm_aload_n C rfl 0 rfl dX5_commonWithLast_37 ?_
    refine zm_getR C ff_X5_9 dX5_commonWithLast_38 w (fun v1 w => ?_)
    refine zm_aload_n C rfl 0 rfl dX5_commonWithLast_41 ?_
    refine zm_getR C ff_X5_15 dX5_commonWithLast_42 w (fun v2 w => ?_)
    refine zm_iload_n C rfl 1 rfl dX5_commonWithLast_45 ?_
    refine zm_iconst (v := nI 1) C (by decide) dX5_commonWithLast_46 ?_
    refine zm_isub C dX5_commonWithLast_47 ?_
    refine zm_ldI C dX5_commonWithLast_48 w (fun v3 w => ?_)
    refine zm_iload_n C rfl 3 rfl dX5_commonWithLast_49 ?_
    refine zm_iadd C dX5_commonWithLast_50 ?_
    refine zm_ldB C dX5_commonWithLast_51 w (fun v4 w => ?_)
    refine zm_aload_n C rfl 0 rfl dX5_commonWithLast_52 ?_
    refine zm_getR C ff_X5_9 dX5_commonWithLast_53 w (fun v5 w => ?_)
    refine zm_aload_n C rfl 0 rfl dX5_commonWithLast_56 ?_
    refine zm_getR C ff_X5_15 dX5_commonWithLast_57 w (fun v6 w => ?_)
    refine zm_iload_n C rfl 1 rfl dX5_commonWithLast_60 ?_
    refine zm_ldI C dX5_commonWithLast_61 w (fun v7 w => ?_)
    refine zm_iload_n C rfl 3 rfl dX5_commonWithLast_62 ?_
    refine zm_iadd C dX5_commonWithLast_63 ?_
    refine zm_ldB C dX5_commonWithLast_64 w (fun v8 w => ?_)
    refine zm_icmp_ne (tgt := 74) C dX5_commonWithLast_65 (by decide) (fun z => ?_) (fun z => ?_)
    · replace w := w.1 z
      refine zm_iload_n C rfl 3 rfl dX5_commonWithLast_74 ?_
      exact zm_ireturn C Rt (by show nc ≤ 0; omega) (by show ns ≤ 0; omega) rfl dX5_commonWithLast_75 w
    · replace w := w.2 z
      refine zm_iinc (L' := [(0, .ref a0), (1, .int i1), (2, .int i2), (3, .int (i3 + (nI 1)))]) C (by decide) 3 [1, 2, 3, 0] dX5_commonWithLast_68 rfl rfl rfl ?_
      refine zm_goto (tgt := 32) C dX5_commonWithLast_71 (by decide) ?_
      exact w
set_option maxRecDepth 20000 in
theorem B_X5_areSame_0 {E : zm_E} {K : zm_K} {Post : zm_Po} {nc ns : Nat} (C : zm_Cx E K cX5_areSame RX5 3 42 0 0 5) (Rt : zm_Rt E Post 0 0 (some .boolean)) {a0 : Nat} {i1 : Int32} {i2 : Int32} {h : zm_H} (hnc : nc ≤ 0) (hns : ns ≤ 0) (w : zm_rc h a0 5 ∧ zm_ci K M_X5_has [.ref a0, .int i1] h fun v1 h1 => (v1 = 0 → narrow .boolean (.int (nI 0)) = .int (nI 0) ∧ Post (some (.int (nI 0))) h1) ∧ (¬ v1 = 0 → zm_rc h1 a0 5 ∧ zm_ci K M_X5_has [.ref a0, .int i2] h1 fun v2 h2 => (v2 = 0 → narrow .boolean (.int (nI 0)) = .int (nI 0) ∧ Post (some (.int (nI 0))) h2) ∧ (¬ v2 = 0 → zm_rc h2 a0 5 ∧ zm_ci K M_X5_lengthOf [.ref a0, .int i1] h2 fun v3 h3 => zm_rc h3 a0 5 ∧ zm_ci K M_X5_lengthOf [.ref a0, .int i2] h3 fun v4 h4 => (v3 = v4 → zm_rc h4 a0 5 ∧ zm_ci K M_X5_lengthOf [.ref a0, .int i1] h4 fun v5 h5 => zm_Go E nc ns 40 [(0, .ref a0), (1, .int i1), (2, .int i2), (3, .int v5), (4, .int (nI 0))] [] h5) ∧ (¬ v3 = v4 → narrow .boolean (.int (nI 0)) = .int (nI 0) ∧ Post (some (.int (nI 0))) h4)))) : zm_Go E nc ns 0 [(0, .ref a0), (1, .int i1), (2, .int i2)] [] h := by
  refine zm_aload_n C rfl 0 rfl dX5_areSame_0 ?_
  refine zm_iload_n C rfl 1 rfl dX5_areSame_1 ?_
  obtain ⟨wr, w⟩ := w
  refine zm_Vi (As := [.int i1]) (rest := []) C M_X5_has sv_X5_23 rfl dX5_areSame_2 rfl (Nat.le_of_ble_eq_true rfl) (by decide) (by decide) (by show nc + 0 ≤ 0; omega) (by show ns + 0 ≤ 0; omega) wr w (fun v1 h1 w => ?_)
  refine zm_if_eq (tgt := 29) C dX5_areSame_5 (by decide) (fun z => ?_) (fun z => ?_)
  · replace w := w.1 z
    refine zm_iconst (v := nI 0) C (by decide) dX5_areSame_29 ?_
    exact zm_ireturn C Rt (by show nc ≤ 0; omega) (by show ns ≤ 0; omega) w.1 dX5_areSame_30 w.2
  · replace w := w.2 z
    refine zm_aload_n C rfl 0 rfl dX5_areSame_8 ?_
    refine zm_iload_n C rfl 2 rfl dX5_areSame_9 ?_
    obtain ⟨wr, w⟩ := w
    refine zm_Vi (As := [.int i2]) (rest := []) C M_X5_has sv_X5_23 rfl dX5_areSame_10 rfl (Nat.le_of_ble_eq_true rfl) (by decide) (by decide) (by show nc + 0 ≤ 0; omega) (by show ns + 0 ≤ 0; omega) wr w (fun v2 h2 w => ?_)
    refine zm_if_eq (tgt := 29) C dX5_areSame_13 (by decide) (fun z => ?_) (fun z => ?_)
    · replace w := w.1 z
      refine zm_iconst (v := nI 0) C (by decide) dX5_areSame_29 ?_
      exact zm_ireturn C Rt (by show nc ≤ 0; omega) (by show ns ≤ 0; omega) w.1 dX5_areSame_30 w.2
    · replace w := w.2 z
      refine zm_aload_n C rfl 0 rfl dX5_areSame_16 ?_
      refine zm_iload_n C rfl 1 rfl dX5_areSame_17 ?_
      obtain ⟨wr, w⟩ := w
      refine zm_Vi (As := [.int i1]) (rest := []) C M_X5_lengthOf sv_X5_31 rfl dX5_areSame_18 rfl (Nat.le_of_ble_eq_true rfl) (by decide) (by decide) (by show nc + 0 ≤ 0; omega) (by show ns + 0 ≤ 0; omega) wr w (fun v3 h3 w => ?_)
      refine zm_aload_n C rfl 0 rfl dX5_areSame_21 ?_
      refine zm_iload_n C rfl 2 rfl dX5_areSame_22 ?_
      obtain ⟨wr, w⟩ := w
      refine zm_Vi (As := [.int i2]) (rest := [.int v3]) C M_X5_lengthOf sv_X5_31 rfl dX5_areSame_23 rfl (Nat.le_of_ble_eq_true rfl) (by decide) (by decide) (by show nc + 0 ≤ 0; omega) (by show ns + 0 ≤ 0; omega) wr w (fun v4 h4 w => ?_)
      refine zm_icmp_eq (tgt := 31) C dX5_areSame_26 (by decide) (fun z => ?_) (fun z => ?_)
      · replace w := w.1 z
        refine zm_aload_n C rfl 0 rfl dX5_areSame_31 ?_
        refine zm_iload_n C rfl 1 rfl dX5_areSame_32 ?_
        obtain ⟨wr, w⟩ := w
        refine zm_Vi (As := [.int i1]) (rest := []) C M_X5_lengthOf sv_X5_31 rfl dX5_areSame_33 rfl (Nat.le_of_ble_eq_true rfl) (by decide) (by decide) (by show nc + 0 ≤ 0; omega) (by show ns + 0 ≤ 0; omega) wr w (fun v5 h5 w => ?_)
        refine zm_istore_n (L' := [(0, .ref a0), (1, .int i1), (2, .int i2), (3, .int v5)]) C rfl (by decide) [1, 2, 3, 0] dX5_areSame_36 rfl ?_
        refine zm_iconst (v := nI 0) C (by decide) dX5_areSame_37 ?_
        refine zm_istore (L' := [(0, .ref a0), (1, .int i1), (2, .int i2), (3, .int v5), (4, .int (nI 0))]) C (by decide) [1, 2, 3, 4, 0] dX5_areSame_38 rfl ?_
        exact w
      · replace w := w.2 z
        refine zm_iconst (v := nI 0) C (by decide) dX5_areSame_29 ?_
        exact zm_ireturn C Rt (by show nc ≤ 0; omega) (by show ns ≤ 0; omega) w.1 dX5_areSame_30 w.2
set_option maxRecDepth 20000 in
theorem B_X5_areSame_40 {E : zm_E} {K : zm_K} {Post : zm_Po} {nc ns : Nat} (C : zm_Cx E K cX5_areSame RX5 3 42 0 0 5) (Rt : zm_Rt E Post 0 0 (some .boolean)) {a0 : Nat} {i1 : Int32} {i2 : Int32} {i3 : Int32} {i4 : Int32} {h : zm_H} (hnc : nc ≤ 0) (hns : ns ≤ 0) (w : (i3 ≤ i4 → narrow .boolean (.int (nI 1)) = .int (nI 1) ∧ Post (some (.int (nI 1))) h) ∧ (¬ i3 ≤ i4 → zm_gR h a0 5 0 fun v1 => zm_gR h a0 5 1 fun v2 => zm_ld K 1 h v2 i1 fun v3 => zm_ld K 0 h v1 (v3 + i4) fun v4 => zm_gR h a0 5 0 fun v5 => zm_gR h a0 5 1 fun v6 => zm_ld K 1 h v6 i2 fun v7 => zm_ld K 0 h v5 (v7 + i4) fun v8 => (v4 = v8 → zm_Go E nc ns 40 [(0, .ref a0), (1, .int i1), (2, .int i2), (3, .int i3), (4, .int (i4 + (nI 1)))] [] h) ∧ (¬ v4 = v8 → narrow .boolean (.int (nI 0)) = .int (nI 0) ∧ Post (some (.int (nI 0))) h))) : zm_Go E nc ns 40 [(0, .ref a0), (1, .int i1), (2, .int i2), (3, .int i3), (4, .int i4)] [] h := by
  refine zm_iload C 4 rfl dX5_areSame_40 ?_
  refine zm_iload_n C rfl 3 rfl dX5_areSame_42 ?_
  refine zm_icmp_ge (tgt := 85) C dX5_areSame_43 (by decide) (fun z => ?_) (fun z => ?_)
  · replace w := w.1 z
    refine zm_iconst (v := nI 1) C (by decide) dX5_areSame_85 ?_
    exact zm_ireturn C Rt (by show nc ≤ 0; omega) (by show ns ≤ 0; omega) w.1 dX5_areSame_86 w.2
  · replace w := w.2 z
    refine zm_aload_n C rfl 0 rfl dX5_areSame_46 ?_
    refine zm_getR C ff_X5_9 dX5_areSame_47 w (fun v1 w => ?_)
    refine zm_aload_n C rfl 0 rfl dX5_areSame_50 ?_
    refine zm_getR C ff_X5_15 dX5_areSame_51 w (fun v2 w => ?_)
    refine zm_iload_n C rfl 1 rfl dX5_areSame_54 ?_
    refine zm_ldI C dX5_areSame_55 w (fun v3 w => ?_)
    refine zm_iload C 4 rfl dX5_areSame_56 ?_
    refine zm_iadd C dX5_areSame_58 ?_
    refine zm_ldB C dX5_areSame_59 w (fun v4 w => ?_)
    refine zm_aload_n C rfl 0 rfl dX5_areSame_60 ?_
    refine zm_getR C ff_X5_9 dX5_areSame_61 w (fun v5 w => ?_)
    refine zm_aload_n C rfl 0 rfl dX5_areSame_64 ?_
    refine zm_getR C ff_X5_15 dX5_areSame_65 w (fun v6 w => ?_)
    refine zm_iload_n C rfl 2 rfl dX5_areSame_68 ?_
    refine zm_ldI C dX5_areSame_69 w (fun v7 w => ?_)
    refine zm_iload C 4 rfl dX5_areSame_70 ?_
    refine zm_iadd C dX5_areSame_72 ?_
    refine zm_ldB C dX5_areSame_73 w (fun v8 w => ?_)
    refine zm_icmp_eq (tgt := 79) C dX5_areSame_74 (by decide) (fun z => ?_) (fun z => ?_)
    · replace w := w.1 z
      refine zm_iinc (L' := [(0, .ref a0), (1, .int i1), (2, .int i2), (3, .int i3), (4, .int (i4 + (nI 1)))]) C (by decide) 4 [1, 2, 3, 4, 0] dX5_areSame_79 rfl rfl rfl ?_
      refine zm_goto (tgt := 40) C dX5_areSame_82 (by decide) ?_
      exact w
    · replace w := w.2 z
      refine zm_iconst (v := nI 0) C (by decide) dX5_areSame_77 ?_
      exact zm_ireturn C Rt (by show nc ≤ 0; omega) (by show ns ≤ 0; omega) w.1 dX5_areSame_78 w.2
set_option maxRecDepth 20000 in
theorem B_X6_init_0 {E : zm_E} {K : zm_K} {Post : zm_Po} {nc ns : Nat} (C : zm_Cx E K cX6_init RX6 1 26 1 1000 1) (Rt : zm_Rt E Post 1 1000 none) (hin : zm_in E) {a0 : Nat} {h : zm_H} (hnc : nc + 1 ≤ 1) (hns : ns + 1000 ≤ 1000) (w : ¬ (nI 1000) < 0 ∧ 1000 * componentBytes .long ≤ 536870912 ∧ ns + 1000 ≤ 1000 ∧ ∀ v1, h v1 = none → zm_pf (zm_set h v1 (.inl (K.2.2 2, 1000, .inr (.inl (fun _ => 0))))) a0 6 0 (.ref v1) fun h1 => Post none h1) : zm_Go E nc ns 0 [(0, .ref a0)] [] h := by
  refine zm_aload_n C rfl 0 rfl dX6_init_0 ?_
  refine zm_objInit C (zm_inG (by decide +kernel) rfl) (zm_inG (by decide +kernel) rfl) zi_objInit (by decide) (by decide) (Nat.le_of_ble_eq_true rfl) dX6_init_1 ?_
  refine zm_aload_n C rfl 0 rfl dX6_init_4 ?_
  refine zm_sipush (v := nI 1000) C (by decide) dX6_init_5 ?_
  obtain ⟨g1, g2, g3, w⟩ := w
  refine zm_newa (ty := .long) (N := 1000) (a0 := (1000, .inr (.inl (fun _ => 0)))) C 2 rfl (fun _ => rfl) (fun _ _ z => z) (zm_inG (by decide +kernel) rfl) (fun _ => rfl) dX6_init_8 g1 (by decide) g2 (by show nc + 1 ≤ 1; omega) g3 (fun v1 hq => ?_)
  replace w := w v1 hq
  refine zm_putQ C hin ff_X6_9 ft_X6 fp_X6_6_0 rfl rfl dX6_init_10 w (fun h1 w => ?_)
  exact zm_return C Rt (by show nc + 1 ≤ 1; omega) (by show ns + 1000 ≤ 1000; omega) dX6_init_13 w
set_option maxRecDepth 20000 in
theorem B_X6_writeOn_0 {E : zm_E} {K : zm_K} {Post : zm_Po} {nc ns : Nat} (C : zm_Cx E K cX6_writeOn RX6 4 73 0 0 7) (Rt : zm_Rt E Post 0 0 none) {a0 : Nat} {a1 : Nat} {i2 : Int32} {h : zm_H} (w : zm_Go E nc ns 5 [(0, .ref a0), (1, .ref a1), (2, .int i2), (3, .int (nI 0)), (4, .int (nI 0))] [] h) : zm_Go E nc ns 0 [(0, .ref a0), (1, .ref a1), (2, .int i2)] [] h := by
  refine zm_iconst (v := nI 0) C (by decide) dX6_writeOn_0 ?_
  refine zm_istore_n (L' := [(0, .ref a0), (1, .ref a1), (2, .int i2), (3, .int (nI 0))]) C rfl (by decide) [1, 2, 3, 0] dX6_writeOn_1 rfl ?_
  refine zm_iconst (v := nI 0) C (by decide) dX6_writeOn_2 ?_
  refine zm_istore (L' := [(0, .ref a0), (1, .ref a1), (2, .int i2), (3, .int (nI 0)), (4, .int (nI 0))]) C (by decide) [1, 2, 3, 4, 0] dX6_writeOn_3 rfl ?_
  exact w
set_option maxRecDepth 20000 in
theorem B_X6_writeOn_5 {E : zm_E} {K : zm_K} {Post : zm_Po} {nc ns : Nat} (C : zm_Cx E K cX6_writeOn RX6 4 73 0 0 7) (Rt : zm_Rt E Post 0 0 none) {a0 : Nat} {a1 : Nat} {i2 : Int32} {i3 : Int32} {i4 : Int32} {h : zm_H} (hnc : nc ≤ 0) (hns : ns ≤ 0) (w : zm_gI h a0 6 1 fun v1 => (v1 ≤ i4 → Post none h) ∧ (¬ v1 ≤ i4 → zm_gI h a0 6 1 fun v2 => (v2 ≤ i3 → Post none h) ∧ (¬ v2 ≤ i3 → zm_rc h a0 6 ∧ zm_ci K M_X6_sameFrom [.ref a0, .int i3] h fun v3 h1 => (v3 < (nI 8) → zm_rc h1 a0 6 ∧ zm_ci K M_X6_groupsFrom [.ref a0, .int i3] h1 fun v4 h2 => zm_rc h2 a0 6 ∧ zm_cv K M_X6_writeGroups [.ref a0, .ref a1, .int i3, .int v4, .int i2] h2 fun h3 => zm_Go E nc ns 5 [(0, .ref a0), (1, .ref a1), (2, .int i2), (3, .int (i3 + (v4 * (nI 8)))), (4, .int (i4 + (nI 1)))] [] h3) ∧ (¬ v3 < (nI 8) → zm_rc h1 a0 6 ∧ zm_cv K M_X6_writeOne [.ref a0, .ref a1, .int i3, .int v3, .int i2] h1 fun h4 => zm_Go E nc ns 5 [(0, .ref a0), (1, .ref a1), (2, .int i2), (3, .int (i3 + v3)), (4, .int (i4 + (nI 1)))] [] h4)))) : zm_Go E nc ns 5 [(0, .ref a0), (1, .ref a1), (2, .int i2), (3, .int i3), (4, .int i4)] [] h := by
  refine zm_iload C 4 rfl dX6_writeOn_5 ?_
  refine zm_aload_n C rfl 0 rfl dX6_writeOn_7 ?_
  refine zm_getI C ff_X6_15 dX6_writeOn_8 w (fun v1 w => ?_)
  refine zm_icmp_ge (tgt := 83) C dX6_writeOn_11 (by decide) (fun z => ?_) (fun z => ?_)
  · replace w := w.1 z
    exact zm_return C Rt (by show nc ≤ 0; omega) (by show ns ≤ 0; omega) dX6_writeOn_83 w
  · replace w := w.2 z
    refine zm_iload_n C rfl 3 rfl dX6_writeOn_14 ?_
    refine zm_aload_n C rfl 0 rfl dX6_writeOn_15 ?_
    refine zm_getI C ff_X6_15 dX6_writeOn_16 w (fun v2 w => ?_)
    refine zm_icmp_ge (tgt := 83) C dX6_writeOn_19 (by decide) (fun z => ?_) (fun z => ?_)
    · replace w := w.1 z
      exact zm_return C Rt (by show nc ≤ 0; omega) (by show ns ≤ 0; omega) dX6_writeOn_83 w
    · replace w := w.2 z
      refine zm_aload_n C rfl 0 rfl dX6_writeOn_22 ?_
      refine zm_iload_n C rfl 3 rfl dX6_writeOn_23 ?_
      obtain ⟨wr, w⟩ := w
      refine zm_Vi (As := [.int i3]) (rest := []) C M_X6_sameFrom sv_X6_19 rfl dX6_writeOn_24 rfl (Nat.le_of_ble_eq_true rfl) (by decide) (by decide) (by show nc + 0 ≤ 0; omega) (by show ns + 0 ≤ 0; omega) wr w (fun v3 h1 w => ?_)
      refine zm_istore (L' := [(0, .ref a0), (1, .ref a1), (2, .int i2), (3, .int i3), (4, .int i4), (5, .int v3)]) C (by decide) [1, 2, 3, 4, 5, 0] dX6_writeOn_27 rfl ?_
      refine zm_iload C 5 rfl dX6_writeOn_29 ?_
      refine zm_bipush (v := nI 8) C (by decide) dX6_writeOn_31 ?_
      refine zm_icmp_lt (tgt := 53) C dX6_writeOn_33 (by decide) (fun z => ?_) (fun z => ?_)
      · replace w := w.1 z
        refine zm_aload_n C rfl 0 rfl dX6_writeOn_53 ?_
        refine zm_iload_n C rfl 3 rfl dX6_writeOn_54 ?_
        obtain ⟨wr, w⟩ := w
        refine zm_Vi (As := [.int i3]) (rest := []) C M_X6_groupsFrom sv_X6_27 rfl dX6_writeOn_55 rfl (Nat.le_of_ble_eq_true rfl) (by decide) (by decide) (by show nc + 0 ≤ 0; omega) (by show ns + 0 ≤ 0; omega) wr w (fun v4 h2 w => ?_)
        refine zm_istore (L' := [(0, .ref a0), (1, .ref a1), (2, .int i2), (3, .int i3), (4, .int i4), (5, .int v3), (6, .int v4)]) C (by decide) [1, 2, 3, 4, 5, 6, 0] dX6_writeOn_58 rfl ?_
        refine zm_aload_n C rfl 0 rfl dX6_writeOn_60 ?_
        refine zm_aload_n C rfl 1 rfl dX6_writeOn_61 ?_
        refine zm_iload_n C rfl 3 rfl dX6_writeOn_62 ?_
        refine zm_iload C 6 rfl dX6_writeOn_63 ?_
        refine zm_iload_n C rfl 2 rfl dX6_writeOn_65 ?_
        obtain ⟨wr, w⟩ := w
        refine zm_Vv (As := [.ref a1, .int i3, .int v4, .int i2]) (rest := []) C M_X6_writeGroups sv_X6_30 rfl dX6_writeOn_66 rfl (Nat.le_of_ble_eq_true rfl) (by decide) (by decide) (by show nc + 0 ≤ 0; omega) (by show ns + 0 ≤ 0; omega) wr w (fun h3 w => ?_)
        refine zm_iload_n C rfl 3 rfl dX6_writeOn_69 ?_
        refine zm_iload C 6 rfl dX6_writeOn_70 ?_
        refine zm_bipush (v := nI 8) C (by decide) dX6_writeOn_72 ?_
        refine zm_imul C dX6_writeOn_74 ?_
        refine zm_iadd C dX6_writeOn_75 ?_
        refine zm_istore_n (L' := [(0, .ref a0), (1, .ref a1), (2, .int i2), (3, .int (i3 + (v4 * (nI 8)))), (4, .int i4), (5, .int v3), (6, .int v4)]) C rfl (by decide) [1, 2, 3, 0, 4, 5, 6] dX6_writeOn_76 rfl ?_
        refine zm_iinc (L' := [(0, .ref a0), (1, .ref a1), (2, .int i2), (3, .int (i3 + (v4 * (nI 8)))), (4, .int (i4 + (nI 1))), (5, .int v3), (6, .int v4)]) C (by decide) 4 [1, 2, 3, 4, 0, 5, 6] dX6_writeOn_77 rfl rfl rfl ?_
        refine zm_goto (tgt := 5) C dX6_writeOn_80 (by decide) ?_
        exact zm_loc [0, 1, 2, 3, 4] rfl w
      · replace w := w.2 z
        refine zm_aload_n C rfl 0 rfl dX6_writeOn_36 ?_
        refine zm_aload_n C rfl 1 rfl dX6_writeOn_37 ?_
        refine zm_iload_n C rfl 3 rfl dX6_writeOn_38 ?_
        refine zm_iload C 5 rfl dX6_writeOn_39 ?_
        refine zm_iload_n C rfl 2 rfl dX6_writeOn_41 ?_
        obtain ⟨wr, w⟩ := w
        refine zm_Vv (As := [.ref a1, .int i3, .int v3, .int i2]) (rest := []) C M_X6_writeOne sv_X6_23 rfl dX6_writeOn_42 rfl (Nat.le_of_ble_eq_true rfl) (by decide) (by decide) (by show nc + 0 ≤ 0; omega) (by show ns + 0 ≤ 0; omega) wr w (fun h4 w => ?_)
        refine zm_iload_n C rfl 3 rfl dX6_writeOn_45 ?_
        refine zm_iload C 5 rfl dX6_writeOn_46 ?_
        refine zm_iadd C dX6_writeOn_48 ?_
        refine zm_istore_n (L' := [(0, .ref a0), (1, .ref a1), (2, .int i2), (3, .int (i3 + v3)), (4, .int i4), (5, .int v3)]) C rfl (by decide) [1, 2, 3, 0, 4, 5] dX6_writeOn_49 rfl ?_
        refine zm_goto (tgt := 77) C dX6_writeOn_50 (by decide) ?_
        refine zm_iinc (L' := [(0, .ref a0), (1, .ref a1), (2, .int i2), (3, .int (i3 + v3)), (4, .int (i4 + (nI 1))), (5, .int v3)]) C (by decide) 4 [1, 2, 3, 4, 0, 5] dX6_writeOn_77 rfl rfl rfl ?_
        refine zm_goto (tgt := 5) C dX6_writeOn_80 (by decide) ?_
        exact zm_loc [0, 1, 2, 3, 4] rfl w
set_option maxRecDepth 20000 in
theorem B_X6_sameFrom_0 {E : zm_E} {K : zm_K} {Post : zm_Po} {nc ns : Nat} (C : zm_Cx E K cX6_sameFrom RX6 1 0 0 0 3) (Rt : zm_Rt E Post 0 0 (some .int)) {a0 : Nat} {i1 : Int32} {h : zm_H} (w : zm_Go E nc ns 2 [(0, .ref a0), (1, .int i1), (2, .int (nI 1))] [] h) : zm_Go E nc ns 0 [(0, .ref a0), (1, .int i1)] [] h := by
  refine zm_iconst (v := nI 1) C (by decide) dX6_sameFrom_0 ?_
  refine zm_istore_n (L' := [(0, .ref a0), (1, .int i1), (2, .int (nI 1))]) C rfl (by decide) [1, 2, 0] dX6_sameFrom_1 rfl ?_
  exact w
set_option maxRecDepth 20000 in
theorem B_X6_sameFrom_2 {E : zm_E} {K : zm_K} {Post : zm_Po} {nc ns : Nat} (C : zm_Cx E K cX6_sameFrom RX6 1 0 0 0 3) (Rt : zm_Rt E Post 0 0 (some .int)) {a0 : Nat} {i1 : Int32} {i2 : Int32} {h : zm_H} (hnc : nc ≤ 0) (hns : ns ≤ 0) (w : zm_gI h a0 6 1 fun v1 => (v1 ≤ (i1 + i2) → Post (some (.int i2)) h) ∧ (¬ v1 ≤ (i1 + i2) → zm_gR h a0 6 0 fun v2 => zm_lL K h v2 (i1 + i2) fun v3 => zm_gR h a0 6 0 fun v4 => zm_lL K h v4 i1 fun v5 => (¬ (lg_cmp v3 v5) = 0 → Post (some (.int i2)) h) ∧ ((lg_cmp v3 v5) = 0 → zm_Go E nc ns 2 [(0, .ref a0), (1, .int i1), (2, .int (i2 + (nI 1)))] [] h))) : zm_Go E nc ns 2 [(0, .ref a0), (1, .int i1), (2, .int i2)] [] h := by
  refine zm_iload_n C rfl 1 rfl dX6_sameFrom_2 ?_
  refine zm_iload_n C rfl 2 rfl dX6_sameFrom_3 ?_
  refine zm_iadd C dX6_sameFrom_4 ?_
  refine zm_aload_n C rfl 0 rfl dX6_sameFrom_5 ?_
  refine zm_getI C ff_X6_15 dX6_sameFrom_6 w (fun v1 w => ?_)
  refine zm_icmp_ge (tgt := 36) C dX6_sameFrom_9 (by decide) (fun z => ?_) (fun z => ?_)
  · replace w := w.1 z
    refine zm_iload_n C rfl 2 rfl dX6_sameFrom_36 ?_
    exact zm_ireturn C Rt (by show nc ≤ 0; omega) (by show ns ≤ 0; omega) rfl dX6_sameFrom_37 w
  · replace w := w.2 z
    refine zm_aload_n C rfl 0 rfl dX6_sameFrom_12 ?_
    refine zm_getR C ff_X6_9 dX6_sameFrom_13 w (fun v2 w => ?_)
    refine zm_iload_n C rfl 1 rfl dX6_sameFrom_16 ?_
    refine zm_iload_n C rfl 2 rfl dX6_sameFrom_17 ?_
    refine zm_iadd C dX6_sameFrom_18 ?_
    refine zm_ldL C dX6_sameFrom_19 w (fun v3 w => ?_)
    refine zm_aload_n C rfl 0 rfl dX6_sameFrom_20 ?_
    refine zm_getR C ff_X6_9 dX6_sameFrom_21 w (fun v4 w => ?_)
    refine zm_iload_n C rfl 1 rfl dX6_sameFrom_24 ?_
    refine zm_ldL C dX6_sameFrom_25 w (fun v5 w => ?_)
    refine zm_lcmp C dX6_sameFrom_26 ?_
    refine zm_if_ne (tgt := 36) C dX6_sameFrom_27 (by decide) (fun z => ?_) (fun z => ?_)
    · replace w := w.1 z
      refine zm_iload_n C rfl 2 rfl dX6_sameFrom_36 ?_
      exact zm_ireturn C Rt (by show nc ≤ 0; omega) (by show ns ≤ 0; omega) rfl dX6_sameFrom_37 w
    · replace w := w.2 z
      refine zm_iinc (L' := [(0, .ref a0), (1, .int i1), (2, .int (i2 + (nI 1)))]) C (by decide) 2 [1, 2, 0] dX6_sameFrom_30 rfl rfl rfl ?_
      refine zm_goto (tgt := 2) C dX6_sameFrom_33 (by decide) ?_
      exact w
set_option maxRecDepth 20000 in
theorem B_X6_groupsFrom_0 {E : zm_E} {K : zm_K} {Post : zm_Po} {nc ns : Nat} (C : zm_Cx E K cX6_groupsFrom RX6 2 22 0 0 3) (Rt : zm_Rt E Post 0 0 (some .int)) {a0 : Nat} {i1 : Int32} {h : zm_H} (w : zm_Go E nc ns 2 [(0, .ref a0), (1, .int i1), (2, .int (nI 1))] [] h) : zm_Go E nc ns 0 [(0, .ref a0), (1, .int i1)] [] h := by
  refine zm_iconst (v := nI 1) C (by decide) dX6_groupsFrom_0 ?_
  refine zm_istore_n (L' := [(0, .ref a0), (1, .int i1), (2, .int (nI 1))]) C rfl (by decide) [1, 2, 0] dX6_groupsFrom_1 rfl ?_
  exact w
set_option maxRecDepth 20000 in
theorem B_X6_groupsFrom_2 {E : zm_E} {K : zm_K} {Post : zm_Po} {nc ns : Nat} (C : zm_Cx E K cX6_groupsFrom RX6 2 22 0 0 3) (Rt : zm_Rt E Post 0 0 (some .int)) {a0 : Nat} {i1 : Int32} {i2 : Int32} {h : zm_H} (hnc : nc ≤ 0) (hns : ns ≤ 0) (w : zm_gI h a0 6 1 fun v1 => (v1 ≤ (i1 + (i2 * (nI 8))) → Post (some (.int i2)) h) ∧ (¬ v1 ≤ (i1 + (i2 * (nI 8))) → zm_rc h a0 6 ∧ zm_ci K M_X6_sameFrom [.ref a0, .int (i1 + (i2 * (nI 8)))] h fun v2 h1 => ((nI 8) ≤ v2 → Post (some (.int i2)) h1) ∧ (¬ (nI 8) ≤ v2 → zm_Go E nc ns 2 [(0, .ref a0), (1, .int i1), (2, .int (i2 + (nI 1)))] [] h1))) : zm_Go E nc ns 2 [(0, .ref a0), (1, .int i1), (2, .int i2)] [] h := by
  refine zm_iload_n C rfl 1 rfl dX6_groupsFrom_2 ?_
  refine zm_iload_n C rfl 2 rfl dX6_groupsFrom_3 ?_
  refine zm_bipush (v := nI 8) C (by decide) dX6_groupsFrom_4 ?_
  refine zm_imul C dX6_groupsFrom_6 ?_
  refine zm_iadd C dX6_groupsFrom_7 ?_
  refine zm_aload_n C rfl 0 rfl dX6_groupsFrom_8 ?_
  refine zm_getI C ff_X6_15 dX6_groupsFrom_9 w (fun v1 w => ?_)
  refine zm_icmp_ge (tgt := 36) C dX6_groupsFrom_12 (by decide) (fun z => ?_) (fun z => ?_)
  · replace w := w.1 z
    refine zm_iload_n C rfl 2 rfl dX6_groupsFrom_36 ?_
    exact zm_ireturn C Rt (by show nc ≤ 0; omega) (by show ns ≤ 0; omega) rfl dX6_groupsFrom_37 w
  · replace w := w.2 z
    refine zm_aload_n C rfl 0 rfl dX6_groupsFrom_15 ?_
    refine zm_iload_n C rfl 1 rfl dX6_groupsFrom_16 ?_
    refine zm_iload_n C rfl 2 rfl dX6_groupsFrom_17 ?_
    refine zm_bipush (v := nI 8) C (by decide) dX6_groupsFrom_18 ?_
    refine zm_imul C dX6_groupsFrom_20 ?_
    refine zm_iadd C dX6_groupsFrom_21 ?_
    obtain ⟨wr, w⟩ := w
    refine zm_Vi (As := [.int (i1 + (i2 * (nI 8)))]) (rest := []) C M_X6_sameFrom sv_X6_19 rfl dX6_groupsFrom_22 rfl (Nat.le_of_ble_eq_true rfl) (by decide) (by decide) (by show nc + 0 ≤ 0; omega) (by show ns + 0 ≤ 0; omega) wr w (fun v2 h1 w => ?_)
    refine zm_bipush (v := nI 8) C (by decide) dX6_groupsFrom_25 ?_
    refine zm_icmp_ge (tgt := 36) C dX6_groupsFrom_27 (by decide) (fun z => ?_) (fun z => ?_)
    · replace w := w.1 z
      refine zm_iload_n C rfl 2 rfl dX6_groupsFrom_36 ?_
      exact zm_ireturn C Rt (by show nc ≤ 0; omega) (by show ns ≤ 0; omega) rfl dX6_groupsFrom_37 w
    · replace w := w.2 z
      refine zm_iinc (L' := [(0, .ref a0), (1, .int i1), (2, .int (i2 + (nI 1)))]) C (by decide) 2 [1, 2, 0] dX6_groupsFrom_30 rfl rfl rfl ?_
      refine zm_goto (tgt := 2) C dX6_groupsFrom_33 (by decide) ?_
      exact w
set_option maxRecDepth 20000 in
theorem B_X6_writeOne_0 {E : zm_E} {K : zm_K} {Post : zm_Po} {nc ns : Nat} (C : zm_Cx E K cX6_writeOne RX6 3 46 0 0 6) (Rt : zm_Rt E Post 0 0 none) {a0 : Nat} {a1 : Nat} {i2 : Int32} {i3 : Int32} {i4 : Int32} {h : zm_H} (hnc : nc ≤ 0) (hns : ns ≤ 0) (w : zm_rc h a1 0 ∧ zm_cv K M_X0_putVarint [.ref a1, .long ((lN 2) * i3.toInt64)] h fun h1 => zm_gI h1 a1 0 1 fun v1 => ¬ (nI 8) = 0 ∧ zm_rc h1 a1 0 ∧ zm_cv K M_X0_putZeros [.ref a1, .int ((i4 + (nI 7)) / (nI 8))] h1 fun h2 => zm_gR h2 a0 6 0 fun v2 => zm_lL K h2 v2 i2 fun v3 => zm_rc h2 a1 0 ∧ zm_cv K M_X0_setBits [.ref a1, .int v1, .int (nI 0), .int i4, .long v3] h2 fun h3 => Post none h3) : zm_Go E nc ns 0 [(0, .ref a0), (1, .ref a1), (2, .int i2), (3, .int i3), (4, .int i4)] [] h := by
  refine zm_aload_n C rfl 1 rfl dX6_writeOne_0 ?_
  refine zm_ldc2 (v := lN 2) C (zm_inG (by decide +kernel) rfl) dX6_writeOne_1 ?_
  refine zm_iload_n C rfl 3 rfl dX6_writeOne_4 ?_
  refine zm_i2l C dX6_writeOne_5 ?_
  refine zm_lmul C dX6_writeOne_6 ?_
  obtain ⟨wr, w⟩ := w
  refine zm_Vv (As := [.long ((lN 2) * i3.toInt64)]) (rest := []) C M_X0_putVarint sv_X6_35 rfl dX6_writeOne_7 rfl (Nat.le_of_ble_eq_true rfl) (by decide) (by decide) (by show nc + 0 ≤ 0; omega) (by show ns + 0 ≤ 0; omega) wr w (fun h1 w => ?_)
  refine zm_aload_n C rfl 1 rfl dX6_writeOne_10 ?_
  refine zm_getI C ff_X6_41 dX6_writeOne_11 w (fun v1 w => ?_)
  refine zm_istore (L' := [(0, .ref a0), (1, .ref a1), (2, .int i2), (3, .int i3), (4, .int i4), (5, .int v1)]) C (by decide) [1, 2, 3, 4, 5, 0] dX6_writeOne_14 rfl ?_
  refine zm_aload_n C rfl 1 rfl dX6_writeOne_16 ?_
  refine zm_iload C 4 rfl dX6_writeOne_17 ?_
  refine zm_bipush (v := nI 7) C (by decide) dX6_writeOne_19 ?_
  refine zm_iadd C dX6_writeOne_21 ?_
  refine zm_bipush (v := nI 8) C (by decide) dX6_writeOne_22 ?_
  refine zm_idiv C w.1 dX6_writeOne_24 ?_
  replace w := w.2
  obtain ⟨wr, w⟩ := w
  refine zm_Vv (As := [.int ((i4 + (nI 7)) / (nI 8))]) (rest := []) C M_X0_putZeros sv_X6_44 rfl dX6_writeOne_25 rfl (Nat.le_of_ble_eq_true rfl) (by decide) (by decide) (by show nc + 0 ≤ 0; omega) (by show ns + 0 ≤ 0; omega) wr w (fun h2 w => ?_)
  refine zm_aload_n C rfl 1 rfl dX6_writeOne_28 ?_
  refine zm_iload C 5 rfl dX6_writeOne_29 ?_
  refine zm_iconst (v := nI 0) C (by decide) dX6_writeOne_31 ?_
  refine zm_iload C 4 rfl dX6_writeOne_32 ?_
  refine zm_aload_n C rfl 0 rfl dX6_writeOne_34 ?_
  refine zm_getR C ff_X6_9 dX6_writeOne_35 w (fun v2 w => ?_)
  refine zm_iload_n C rfl 2 rfl dX6_writeOne_38 ?_
  refine zm_ldL C dX6_writeOne_39 w (fun v3 w => ?_)
  obtain ⟨wr, w⟩ := w
  refine zm_Vv (As := [.int v1, .int (nI 0), .int i4, .long v3]) (rest := []) C M_X0_setBits sv_X6_48 rfl dX6_writeOne_40 rfl (Nat.le_of_ble_eq_true rfl) (by decide) (by decide) (by show nc + 0 ≤ 0; omega) (by show ns + 0 ≤ 0; omega) wr w (fun h3 w => ?_)
  exact zm_return C Rt (by show nc ≤ 0; omega) (by show ns ≤ 0; omega) dX6_writeOne_43 w
set_option maxRecDepth 20000 in
theorem B_X6_writeGroups_0 {E : zm_E} {K : zm_K} {Post : zm_Po} {nc ns : Nat} (C : zm_Cx E K cX6_writeGroups RX6 3 46 0 0 8) (Rt : zm_Rt E Post 0 0 none) {a0 : Nat} {a1 : Nat} {i2 : Int32} {i3 : Int32} {i4 : Int32} {h : zm_H} (hnc : nc ≤ 0) (hns : ns ≤ 0) (w : zm_rc h a1 0 ∧ zm_cv K M_X0_putVarint [.ref a1, .long (((lN 2) * i3.toInt64) + (lN 1))] h fun h1 => zm_gI h1 a1 0 1 fun v1 => zm_rc h1 a1 0 ∧ zm_cv K M_X0_putZeros [.ref a1, .int (i3 * i4)] h1 fun h2 => zm_gI h2 a0 6 1 fun v2 => zm_Go E nc ns 44 [(0, .ref a0), (1, .ref a1), (2, .int i2), (4, .int i4), (5, .int v1), (6, .int (if i2 + (i3 * (nI 8)) < v2 then i2 + (i3 * (nI 8)) else v2)), (7, .int i2)] [] h2) : zm_Go E nc ns 0 [(0, .ref a0), (1, .ref a1), (2, .int i2), (3, .int i3), (4, .int i4)] [] h := by
  refine zm_aload_n C rfl 1 rfl dX6_writeGroups_0 ?_
  refine zm_ldc2 (v := lN 2) C (zm_inG (by decide +kernel) rfl) dX6_writeGroups_1 ?_
  refine zm_iload_n C rfl 3 rfl dX6_writeGroups_4 ?_
  refine zm_i2l C dX6_writeGroups_5 ?_
  refine zm_lmul C dX6_writeGroups_6 ?_
  refine zm_lconst (v := lN 1) C (by decide) dX6_writeGroups_7 ?_
  refine zm_ladd C dX6_writeGroups_8 ?_
  obtain ⟨wr, w⟩ := w
  refine zm_Vv (As := [.long (((lN 2) * i3.toInt64) + (lN 1))]) (rest := []) C M_X0_putVarint sv_X6_35 rfl dX6_writeGroups_9 rfl (Nat.le_of_ble_eq_true rfl) (by decide) (by decide) (by show nc + 0 ≤ 0; omega) (by show ns + 0 ≤ 0; omega) wr w (fun h1 w => ?_)
  refine zm_aload_n C rfl 1 rfl dX6_writeGroups_12 ?_
  refine zm_getI C ff_X6_41 dX6_writeGroups_13 w (fun v1 w => ?_)
  refine zm_istore (L' := [(0, .ref a0), (1, .ref a1), (2, .int i2), (3, .int i3), (4, .int i4), (5, .int v1)]) C (by decide) [1, 2, 3, 4, 5, 0] dX6_writeGroups_16 rfl ?_
  refine zm_aload_n C rfl 1 rfl dX6_writeGroups_18 ?_
  refine zm_iload_n C rfl 3 rfl dX6_writeGroups_19 ?_
  refine zm_iload C 4 rfl dX6_writeGroups_20 ?_
  refine zm_imul C dX6_writeGroups_22 ?_
  obtain ⟨wr, w⟩ := w
  refine zm_Vv (As := [.int (i3 * i4)]) (rest := []) C M_X0_putZeros sv_X6_44 rfl dX6_writeGroups_23 rfl (Nat.le_of_ble_eq_true rfl) (by decide) (by decide) (by show nc + 0 ≤ 0; omega) (by show ns + 0 ≤ 0; omega) wr w (fun h2 w => ?_)
  refine zm_aload_n C rfl 0 rfl dX6_writeGroups_26 ?_
  refine zm_getI C ff_X6_15 dX6_writeGroups_27 w (fun v2 w => ?_)
  refine zm_iload_n C rfl 2 rfl dX6_writeGroups_30 ?_
  refine zm_iload_n C rfl 3 rfl dX6_writeGroups_31 ?_
  refine zm_bipush (v := nI 8) C (by decide) dX6_writeGroups_32 ?_
  refine zm_imul C dX6_writeGroups_34 ?_
  refine zm_iadd C dX6_writeGroups_35 ?_
  refine zm_mmin C (zm_inG (by decide +kernel) rfl) (zm_inG (by decide +kernel) rfl) (zm_inG (by decide +kernel) rfl) zi_min (by decide) (by decide) (Nat.le_of_ble_eq_true rfl) (by show nc ≤ 0; omega) (by show ns ≤ 0; omega) dX6_writeGroups_36 ?_
  refine zm_istore (L' := [(0, .ref a0), (1, .ref a1), (2, .int i2), (3, .int i3), (4, .int i4), (5, .int v1), (6, .int (if i2 + (i3 * (nI 8)) < v2 then i2 + (i3 * (nI 8)) else v2))]) C (by decide) [1, 2, 3, 4, 5, 6, 0] dX6_writeGroups_39 rfl ?_
  refine zm_iload_n C rfl 2 rfl dX6_writeGroups_41 ?_
  refine zm_istore (L' := [(0, .ref a0), (1, .ref a1), (2, .int i2), (3, .int i3), (4, .int i4), (5, .int v1), (6, .int (if i2 + (i3 * (nI 8)) < v2 then i2 + (i3 * (nI 8)) else v2)), (7, .int i2)]) C (by decide) [1, 2, 3, 4, 5, 6, 7, 0] dX6_writeGroups_42 rfl ?_
  exact zm_loc [0, 1, 2, 4, 5, 6, 7] rfl w
set_option maxRecDepth 20000 in
theorem B_X6_writeGroups_44 {E : zm_E} {K : zm_K} {Post : zm_Po} {nc ns : Nat} (C : zm_Cx E K cX6_writeGroups RX6 3 46 0 0 8) (Rt : zm_Rt E Post 0 0 none) {a0 : Nat} {a1 : Nat} {i2 : Int32} {i4 : Int32} {i5 : Int32} {i6 : Int32} {i7 : Int32} {h : zm_H} (hnc : nc ≤ 0) (hns : ns ≤ 0) (w : (i6 ≤ i7 → Post none h) ∧ (¬ i6 ≤ i7 → zm_gR h a0 6 0 fun v1 => zm_lL K h v1 i7 fun v2 => zm_rc h a1 0 ∧ zm_cv K M_X0_setBits [.ref a1, .int i5, .int ((i7 - i2) * i4), .int i4, .long v2] h fun h1 => zm_Go E nc ns 44 [(0, .ref a0), (1, .ref a1), (2, .int i2), (4, .int i4), (5, .int i5), (6, .int i6), (7, .int (i7 + (nI 1)))] [] h1)) : zm_Go E nc ns 44 [(0, .ref a0), (1, .ref a1), (2, .int i2), (4, .int i4), (5, .int i5), (6, .int i6), (7, .int i7)] [] h := by
  refine zm_iload C 6 rfl dX6_writeGroups_44 ?_
  refine zm_iload C 5 rfl dX6_writeGroups_46 ?_
  refine zm_icmp_ge (tgt := 79) C dX6_writeGroups_48 (by decide) (fun z => ?_) (fun z => ?_)
  · replace w := w.1 z
    exact zm_return C Rt (by show nc ≤ 0; omega) (by show ns ≤ 0; omega) dX6_writeGroups_79 w
  · replace w := w.2 z
    refine zm_aload_n C rfl 1 rfl dX6_writeGroups_51 ?_
    refine zm_iload C 4 rfl dX6_writeGroups_52 ?_
    refine zm_iload C 6 rfl dX6_writeGroups_54 ?_
    refine zm_iload_n C rfl 2 rfl dX6_writeGroups_56 ?_
    refine zm_isub C dX6_writeGroups_57 ?_
    refine zm_iload C 3 rfl dX6_writeGroups_58 ?_
    refine zm_imul C dX6_writeGroups_60 ?_
    refine zm_iload C 3 rfl dX6_writeGroups_61 ?_
    refine zm_aload_n C rfl 0 rfl dX6_writeGroups_63 ?_
    refine zm_getR C ff_X6_9 dX6_writeGroups_64 w (fun v1 w => ?_)
    refine zm_iload C 6 rfl dX6_writeGroups_67 ?_
    refine zm_ldL C dX6_writeGroups_69 w (fun v2 w => ?_)
    obtain ⟨wr, w⟩ := w
    refine zm_Vv (As := [.int i5, .int ((i7 - i2) * i4), .int i4, .long v2]) (rest := []) C M_X0_setBits sv_X6_48 rfl dX6_writeGroups_70 rfl (Nat.le_of_ble_eq_true rfl) (by decide) (by decide) (by show nc + 0 ≤ 0; omega) (by show ns + 0 ≤ 0; omega) wr w (fun h1 w => ?_)
    refine zm_iinc (L' := [(0, .ref a0), (1, .ref a1), (2, .int i2), (4, .int i4), (5, .int i5), (6, .int i6), (7, .int (i7 + (nI 1)))]) C (by decide) 6 [1, 2, 3, 4, 5, 6, 0] dX6_writeGroups_73 rfl rfl rfl ?_
    refine zm_goto (tgt := 44) C dX6_writeGroups_76 (by decide) ?_
    exact w
set_option maxRecDepth 20000 in
theorem B_X6_readFrom_0 {E : zm_E} {K : zm_K} {Post : zm_Po} {nc ns : Nat} (C : zm_Cx E K cX6_readFrom RX6 5 98 0 0 5) (Rt : zm_Rt E Post 0 0 none) {a0 : Nat} {a1 : Nat} {i2 : Int32} {i3 : Int32} {h : zm_H} (w : zm_pf h a0 6 1 (.int (nI 0)) fun h1 => zm_Go E nc ns 8 [(0, .ref a0), (1, .ref a1), (2, .int i2), (3, .int i3), (4, .int (nI 0))] [] h1) : zm_Go E nc ns 0 [(0, .ref a0), (1, .ref a1), (2, .int i2), (3, .int i3)] [] h := by
  refine zm_aload_n C rfl 0 rfl dX6_readFrom_0 ?_
  refine zm_iconst (v := nI 0) C (by decide) dX6_readFrom_1 ?_
  refine zm_put C ff_X6_15 ft_X6 fp_X6_6_1 rfl rfl dX6_readFrom_2 w (fun h1 w => ?_)
  refine zm_iconst (v := nI 0) C (by decide) dX6_readFrom_5 ?_
  refine zm_istore (L' := [(0, .ref a0), (1, .ref a1), (2, .int i2), (3, .int i3), (4, .int (nI 0))]) C (by decide) [1, 2, 3, 4, 0] dX6_readFrom_6 rfl ?_
  exact w
set_option maxRecDepth 20000 in
theorem B_X6_readFrom_8 {E : zm_E} {K : zm_K} {Post : zm_Po} {nc ns : Nat} (C : zm_Cx E K cX6_readFrom RX6 5 98 0 0 5) (Rt : zm_Rt E Post 0 0 none) {a0 : Nat} {a1 : Nat} {i2 : Int32} {i3 : Int32} {i4 : Int32} {h : zm_H} (hnc : nc ≤ 0) (hns : ns ≤ 0) (w : (i2 ≤ i4 → Post none h) ∧ (¬ i2 ≤ i4 → zm_gI h a0 6 1 fun v1 => (i2 ≤ v1 → Post none h) ∧ (¬ i2 ≤ v1 → zm_rc h a1 7 ∧ zm_ci K M_X7_failed [.ref a1] h fun v2 h1 => (¬ v2 = 0 → Post none h1) ∧ (v2 = 0 → zm_rc h1 a0 6 ∧ zm_cv K M_X6_readRun [.ref a0, .ref a1, .int i2, .int i3] h1 fun h2 => zm_Go E nc ns 8 [(0, .ref a0), (1, .ref a1), (2, .int i2), (3, .int i3), (4, .int (i4 + (nI 1)))] [] h2)))) : zm_Go E nc ns 8 [(0, .ref a0), (1, .ref a1), (2, .int i2), (3, .int i3), (4, .int i4)] [] h := by
  refine zm_iload C 4 rfl dX6_readFrom_8 ?_
  refine zm_iload_n C rfl 2 rfl dX6_readFrom_10 ?_
  refine zm_icmp_ge (tgt := 42) C dX6_readFrom_11 (by decide) (fun z => ?_) (fun z => ?_)
  · replace w := w.1 z
    exact zm_return C Rt (by show nc ≤ 0; omega) (by show ns ≤ 0; omega) dX6_readFrom_42 w
  · replace w := w.2 z
    refine zm_aload_n C rfl 0 rfl dX6_readFrom_14 ?_
    refine zm_getI C ff_X6_15 dX6_readFrom_15 w (fun v1 w => ?_)
    refine zm_iload_n C rfl 2 rfl dX6_readFrom_18 ?_
    refine zm_icmp_ge (tgt := 42) C dX6_readFrom_19 (by decide) (fun z => ?_) (fun z => ?_)
    · replace w := w.1 z
      exact zm_return C Rt (by show nc ≤ 0; omega) (by show ns ≤ 0; omega) dX6_readFrom_42 w
    · replace w := w.2 z
      refine zm_aload_n C rfl 1 rfl dX6_readFrom_22 ?_
      obtain ⟨wr, w⟩ := w
      refine zm_Vi (As := []) (rest := []) C M_X7_failed sv_X6_58 rfl dX6_readFrom_23 rfl (Nat.le_of_ble_eq_true rfl) (by decide) (by decide) (by show nc + 0 ≤ 0; omega) (by show ns + 0 ≤ 0; omega) wr w (fun v2 h1 w => ?_)
      refine zm_if_ne (tgt := 42) C dX6_readFrom_26 (by decide) (fun z => ?_) (fun z => ?_)
      · replace w := w.1 z
        exact zm_return C Rt (by show nc ≤ 0; omega) (by show ns ≤ 0; omega) dX6_readFrom_42 w
      · replace w := w.2 z
        refine zm_aload_n C rfl 0 rfl dX6_readFrom_29 ?_
        refine zm_aload_n C rfl 1 rfl dX6_readFrom_30 ?_
        refine zm_iload_n C rfl 2 rfl dX6_readFrom_31 ?_
        refine zm_iload_n C rfl 3 rfl dX6_readFrom_32 ?_
        obtain ⟨wr, w⟩ := w
        refine zm_Vv (As := [.ref a1, .int i2, .int i3]) (rest := []) C M_X6_readRun sv_X6_64 rfl dX6_readFrom_33 rfl (Nat.le_of_ble_eq_true rfl) (by decide) (by decide) (by show nc + 0 ≤ 0; omega) (by show ns + 0 ≤ 0; omega) wr w (fun h2 w => ?_)
        refine zm_iinc (L' := [(0, .ref a0), (1, .ref a1), (2, .int i2), (3, .int i3), (4, .int (i4 + (nI 1)))]) C (by decide) 4 [1, 2, 3, 4, 0] dX6_readFrom_36 rfl rfl rfl ?_
        refine zm_goto (tgt := 8) C dX6_readFrom_39 (by decide) ?_
        exact w
set_option maxRecDepth 20000 in
theorem B_X6_readRun_0 {E : zm_E} {K : zm_K} {Post : zm_Po} {nc ns : Nat} (C : zm_Cx E K cX6_readRun RX6 4 68 0 0 11) (Rt : zm_Rt E Post 0 0 none) {a0 : Nat} {a1 : Nat} {i2 : Int32} {i3 : Int32} {h : zm_H} (hnc : nc ≤ 0) (hns : ns ≤ 0) (w : zm_rc h a1 7 ∧ zm_cl K M_X7_varint [.ref a1] h fun v1 h1 => zm_gI h1 a0 6 1 fun v2 => (¬ (lg_cmp (v1 &&& (lN 1)) (lN 0)) = 0 → ((nI 0) = 0 → ¬ (nI 8) = 0 ∧ (¬ (lg_cmp ((v1.toUInt64 >>> ((nI 1).toInt64.toUInt64 &&& Int64.toUInt64 63)).toInt64) (lN 0)) = 0 → ((lg_cmp ((v1.toUInt64 >>> ((nI 1).toInt64.toUInt64 &&& Int64.toUInt64 63)).toInt64) ((((((if nI 1000 < i2 then nI 1000 else i2) - v2) + (nI 8)) - (nI 1)) / (nI 8)).toInt64)) ≤ 0 → zm_Go E nc ns 93 [(0, .ref a0), (1, .ref a1), (3, .int i3), (6, .long ((v1.toUInt64 >>> ((nI 1).toInt64.toUInt64 &&& Int64.toUInt64 63)).toInt64)), (8, .int ((if nI 1000 < i2 then nI 1000 else i2) - v2)), (9, .int (nI 0))] [] h1) ∧ (¬ (lg_cmp ((v1.toUInt64 >>> ((nI 1).toInt64.toUInt64 &&& Int64.toUInt64 63)).toInt64) ((((((if nI 1000 < i2 then nI 1000 else i2) - v2) + (nI 8)) - (nI 1)) / (nI 8)).toInt64)) ≤ 0 → zm_rc h1 a1 7 ∧ zm_cv K M_X7_fail [.ref a1, .int (nI 4)] h1 fun h2 => zm_Go E nc ns 93 [(0, .ref a0), (1, .ref a1), (3, .int i3), (6, .long ((v1.toUInt64 >>> ((nI 1).toInt64.toUInt64 &&& Int64.toUInt64 63)).toInt64)), (8, .int ((if nI 1000 < i2 then nI 1000 else i2) - v2)), (9, .int (nI 0))] [] h2)) ∧ ((lg_cmp ((v1.toUInt64 >>> ((nI 1).toInt64.toUInt64 &&& Int64.toUInt64 63)).toInt64) (lN 0)) = 0 → zm_rc h1 a1 7 ∧ zm_cv K M_X7_fail [.ref a1, .int (nI 3)] h1 fun h3 => zm_Go E nc ns 93 [(0, .ref a0), (1, .ref a1), (3, .int i3), (6, .long ((v1.toUInt64 >>> ((nI 1).toInt64.toUInt64 &&& Int64.toUInt64 63)).toInt64)), (8, .int ((if nI 1000 < i2 then nI 1000 else i2) - v2)), (9, .int (nI 0))] [] h3)) ∧ (¬ (nI 0) = 0 → (¬ (lg_cmp ((v1.toUInt64 >>> ((nI 1).toInt64.toUInt64 &&& Int64.toUInt64 63)).toInt64) (lN 0)) = 0 → ((lg_cmp ((v1.toUInt64 >>> ((nI 1).toInt64.toUInt64 &&& Int64.toUInt64 63)).toInt64) (((if nI 1000 < i2 then nI 1000 else i2) - v2).toInt64)) ≤ 0 → zm_Go E nc ns 93 [(0, .ref a0), (1, .ref a1), (3, .int i3), (6, .long ((v1.toUInt64 >>> ((nI 1).toInt64.toUInt64 &&& Int64.toUInt64 63)).toInt64)), (8, .int ((if nI 1000 < i2 then nI 1000 else i2) - v2)), (9, .int (nI 0))] [] h1) ∧ (¬ (lg_cmp ((v1.toUInt64 >>> ((nI 1).toInt64.toUInt64 &&& Int64.toUInt64 63)).toInt64) (((if nI 1000 < i2 then nI 1000 else i2) - v2).toInt64)) ≤ 0 → zm_rc h1 a1 7 ∧ zm_cv K M_X7_fail [.ref a1, .int (nI 4)] h1 fun h4 => zm_Go E nc ns 93 [(0, .ref a0), (1, .ref a1), (3, .int i3), (6, .long ((v1.toUInt64 >>> ((nI 1).toInt64.toUInt64 &&& Int64.toUInt64 63)).toInt64)), (8, .int ((if nI 1000 < i2 then nI 1000 else i2) - v2)), (9, .int (nI 0))] [] h4)) ∧ ((lg_cmp ((v1.toUInt64 >>> ((nI 1).toInt64.toUInt64 &&& Int64.toUInt64 63)).toInt64) (lN 0)) = 0 → zm_rc h1 a1 7 ∧ zm_cv K M_X7_fail [.ref a1, .int (nI 3)] h1 fun h5 => zm_Go E nc ns 93 [(0, .ref a0), (1, .ref a1), (3, .int i3), (6, .long ((v1.toUInt64 >>> ((nI 1).toInt64.toUInt64 &&& Int64.toUInt64 63)).toInt64)), (8, .int ((if nI 1000 < i2 then nI 1000 else i2) - v2)), (9, .int (nI 0))] [] h5))) ∧ ((lg_cmp (v1 &&& (lN 1)) (lN 0)) = 0 → ((nI 1) = 0 → ¬ (nI 8) = 0 ∧ (¬ (lg_cmp ((v1.toUInt64 >>> ((nI 1).toInt64.toUInt64 &&& Int64.toUInt64 63)).toInt64) (lN 0)) = 0 → ((lg_cmp ((v1.toUInt64 >>> ((nI 1).toInt64.toUInt64 &&& Int64.toUInt64 63)).toInt64) ((((((if nI 1000 < i2 then nI 1000 else i2) - v2) + (nI 8)) - (nI 1)) / (nI 8)).toInt64)) ≤ 0 → zm_Go E nc ns 93 [(0, .ref a0), (1, .ref a1), (3, .int i3), (6, .long ((v1.toUInt64 >>> ((nI 1).toInt64.toUInt64 &&& Int64.toUInt64 63)).toInt64)), (8, .int ((if nI 1000 < i2 then nI 1000 else i2) - v2)), (9, .int (nI 1))] [] h1) ∧ (¬ (lg_cmp ((v1.toUInt64 >>> ((nI 1).toInt64.toUInt64 &&& Int64.toUInt64 63)).toInt64) ((((((if nI 1000 < i2 then nI 1000 else i2) - v2) + (nI 8)) - (nI 1)) / (nI 8)).toInt64)) ≤ 0 → zm_rc h1 a1 7 ∧ zm_cv K M_X7_fail [.ref a1, .int (nI 4)] h1 fun h6 => zm_Go E nc ns 93 [(0, .ref a0), (1, .ref a1), (3, .int i3), (6, .long ((v1.toUInt64 >>> ((nI 1).toInt64.toUInt64 &&& Int64.toUInt64 63)).toInt64)), (8, .int ((if nI 1000 < i2 then nI 1000 else i2) - v2)), (9, .int (nI 1))] [] h6)) ∧ ((lg_cmp ((v1.toUInt64 >>> ((nI 1).toInt64.toUInt64 &&& Int64.toUInt64 63)).toInt64) (lN 0)) = 0 → zm_rc h1 a1 7 ∧ zm_cv K M_X7_fail [.ref a1, .int (nI 3)] h1 fun h7 => zm_Go E nc ns 93 [(0, .ref a0), (1, .ref a1), (3, .int i3), (6, .long ((v1.toUInt64 >>> ((nI 1).toInt64.toUInt64 &&& Int64.toUInt64 63)).toInt64)), (8, .int ((if nI 1000 < i2 then nI 1000 else i2) - v2)), (9, .int (nI 1))] [] h7)) ∧ (¬ (nI 1) = 0 → (¬ (lg_cmp ((v1.toUInt64 >>> ((nI 1).toInt64.toUInt64 &&& Int64.toUInt64 63)).toInt64) (lN 0)) = 0 → ((lg_cmp ((v1.toUInt64 >>> ((nI 1).toInt64.toUInt64 &&& Int64.toUInt64 63)).toInt64) (((if nI 1000 < i2 then nI 1000 else i2) - v2).toInt64)) ≤ 0 → zm_Go E nc ns 93 [(0, .ref a0), (1, .ref a1), (3, .int i3), (6, .long ((v1.toUInt64 >>> ((nI 1).toInt64.toUInt64 &&& Int64.toUInt64 63)).toInt64)), (8, .int ((if nI 1000 < i2 then nI 1000 else i2) - v2)), (9, .int (nI 1))] [] h1) ∧ (¬ (lg_cmp ((v1.toUInt64 >>> ((nI 1).toInt64.toUInt64 &&& Int64.toUInt64 63)).toInt64) (((if nI 1000 < i2 then nI 1000 else i2) - v2).toInt64)) ≤ 0 → zm_rc h1 a1 7 ∧ zm_cv K M_X7_fail [.ref a1, .int (nI 4)] h1 fun h8 => zm_Go E nc ns 93 [(0, .ref a0), (1, .ref a1), (3, .int i3), (6, .long ((v1.toUInt64 >>> ((nI 1).toInt64.toUInt64 &&& Int64.toUInt64 63)).toInt64)), (8, .int ((if nI 1000 < i2 then nI 1000 else i2) - v2)), (9, .int (nI 1))] [] h8)) ∧ ((lg_cmp ((v1.toUInt64 >>> ((nI 1).toInt64.toUInt64 &&& Int64.toUInt64 63)).toInt64) (lN 0)) = 0 → zm_rc h1 a1 7 ∧ zm_cv K M_X7_fail [.ref a1, .int (nI 3)] h1 fun h9 => zm_Go E nc ns 93 [(0, .ref a0), (1, .ref a1), (3, .int i3), (6, .long ((v1.toUInt64 >>> ((nI 1).toInt64.toUInt64 &&& Int64.toUInt64 63)).toInt64)), (8, .int ((if nI 1000 < i2 then nI 1000 else i2) - v2)), (9, .int (nI 1))] [] h9)))) : zm_Go E nc ns 0 [(0, .ref a0), (1, .ref a1), (2, .int i2), (3, .int i3)] [] h := by
  refine zm_aload_n C rfl 1 rfl dX6_readRun_0 ?_
  obtain ⟨wr, w⟩ := w
  refine zm_Vl (As := []) (rest := []) C M_X7_varint sv_X6_68 rfl dX6_readRun_1 rfl (Nat.le_of_ble_eq_true rfl) (by decide) (by decide) (by show nc + 0 ≤ 0; omega) (by show ns + 0 ≤ 0; omega) wr w (fun v1 h1 w => ?_)
  refine zm_lstore (L' := [(0, .ref a0), (1, .ref a1), (2, .int i2), (3, .int i3), (4, .long v1)]) C (by decide) [1, 2, 3, 4, 0] dX6_readRun_4 rfl ?_
  refine zm_lload C 4 rfl dX6_readRun_6 ?_
  refine zm_iconst (v := nI 1) C (by decide) dX6_readRun_8 ?_
  refine zm_lushr C dX6_readRun_9 ?_
  refine zm_lstore (L' := [(0, .ref a0), (1, .ref a1), (2, .int i2), (3, .int i3), (4, .long v1), (6, .long ((v1.toUInt64 >>> ((nI 1).toInt64.toUInt64 &&& Int64.toUInt64 63)).toInt64))]) C (by decide) [1, 2, 3, 4, 5, 0] dX6_readRun_10 rfl ?_
  refine zm_iload_n C rfl 2 rfl dX6_readRun_12 ?_
  refine zm_sipush (v := nI 1000) C (by decide) dX6_readRun_13 ?_
  refine zm_mmin C (zm_inG (by decide +kernel) rfl) (zm_inG (by decide +kernel) rfl) (zm_inG (by decide +kernel) rfl) zi_min (by decide) (by decide) (Nat.le_of_ble_eq_true rfl) (by show nc ≤ 0; omega) (by show ns ≤ 0; omega) dX6_readRun_16 ?_
  refine zm_aload_n C rfl 0 rfl dX6_readRun_19 ?_
  refine zm_getI C ff_X6_15 dX6_readRun_20 w (fun v2 w => ?_)
  refine zm_isub C dX6_readRun_23 ?_
  refine zm_istore (L' := [(0, .ref a0), (1, .ref a1), (2, .int i2), (3, .int i3), (4, .long v1), (6, .long ((v1.toUInt64 >>> ((nI 1).toInt64.toUInt64 &&& Int64.toUInt64 63)).toInt64)), (8, .int ((if nI 1000 < i2 then nI 1000 else i2) - v2))]) C (by decide) [1, 2, 3, 4, 5, 6, 0] dX6_readRun_24 rfl ?_
  refine zm_lload C 4 rfl dX6_readRun_26 ?_
  refine zm_lconst (v := lN 1) C (by decide) dX6_readRun_28 ?_
  refine zm_land C dX6_readRun_29 ?_
  refine zm_lconst (v := lN 0) C (by decide) dX6_readRun_30 ?_
  refine zm_lcmp C dX6_readRun_31 ?_
  refine zm_if_ne (tgt := 39) C dX6_readRun_32 (by decide) (fun z => ?_) (fun z => ?_)
  · replace w := w.1 z
    refine zm_iconst (v := nI 0) C (by decide) dX6_readRun_39 ?_
    refine zm_istore (L' := [(0, .ref a0), (1, .ref a1), (2, .int i2), (3, .int i3), (4, .long v1), (6, .long ((v1.toUInt64 >>> ((nI 1).toInt64.toUInt64 &&& Int64.toUInt64 63)).toInt64)), (8, .int ((if nI 1000 < i2 then nI 1000 else i2) - v2)), (9, .int (nI 0))]) C (by decide) [1, 2, 3, 4, 5, 6, 7, 0] dX6_readRun_40 rfl ?_
    refine zm_iload C 7 rfl dX6_readRun_42 ?_
    refine zm_if_eq (tgt := 52) C dX6_readRun_44 (by decide) (fun z => ?_) (fun z => ?_)
    · replace w := w.1 z
      refine zm_iload C 6 rfl dX6_readRun_52 ?_
      refine zm_bipush (v := nI 8) C (by decide) dX6_readRun_54 ?_
      refine zm_iadd C dX6_readRun_56 ?_
      refine zm_iconst (v := nI 1) C (by decide) dX6_readRun_57 ?_
      refine zm_isub C dX6_readRun_58 ?_
      refine zm_bipush (v := nI 8) C (by decide) dX6_readRun_59 ?_
      refine zm_idiv C w.1 dX6_readRun_61 ?_
      replace w := w.2
      refine zm_istore (L' := [(0, .ref a0), (1, .ref a1), (2, .int i2), (3, .int i3), (4, .long v1), (6, .long ((v1.toUInt64 >>> ((nI 1).toInt64.toUInt64 &&& Int64.toUInt64 63)).toInt64)), (8, .int ((if nI 1000 < i2 then nI 1000 else i2) - v2)), (9, .int (nI 0)), (10, .int (((((if nI 1000 < i2 then nI 1000 else i2) - v2) + (nI 8)) - (nI 1)) / (nI 8)))]) C (by decide) [1, 2, 3, 4, 5, 6, 7, 8, 0] dX6_readRun_62 rfl ?_
      refine zm_lload C 5 rfl dX6_readRun_64 ?_
      refine zm_lconst (v := lN 0) C (by decide) dX6_readRun_66 ?_
      refine zm_lcmp C dX6_readRun_67 ?_
      refine zm_if_ne (tgt := 79) C dX6_readRun_68 (by decide) (fun z => ?_) (fun z => ?_)
      · replace w := w.1 z
        refine zm_lload C 5 rfl dX6_readRun_79 ?_
        refine zm_iload C 8 rfl dX6_readRun_81 ?_
        refine zm_i2l C dX6_readRun_83 ?_
        refine zm_lcmp C dX6_readRun_84 ?_
        refine zm_if_le (tgt := 93) C dX6_readRun_85 (by decide) (fun z => ?_) (fun z => ?_)
        · replace w := w.1 z
          exact zm_loc [0, 1, 3, 5, 6, 7] rfl w
        · replace w := w.2 z
          refine zm_aload_n C rfl 1 rfl dX6_readRun_88 ?_
          refine zm_iconst (v := nI 4) C (by decide) dX6_readRun_89 ?_
          obtain ⟨wr, w⟩ := w
          refine zm_Vv (As := [.int (nI 4)]) (rest := []) C M_X7_fail sv_X6_72 rfl dX6_readRun_90 rfl (Nat.le_of_ble_eq_true rfl) (by decide) (by decide) (by show nc + 0 ≤ 0; omega) (by show ns + 0 ≤ 0; omega) wr w (fun h2 w => ?_)
          exact zm_loc [0, 1, 3, 5, 6, 7] rfl w
      · replace w := w.2 z
        refine zm_aload_n C rfl 1 rfl dX6_readRun_71 ?_
        refine zm_iconst (v := nI 3) C (by decide) dX6_readRun_72 ?_
        obtain ⟨wr, w⟩ := w
        refine zm_Vv (As := [.int (nI 3)]) (rest := []) C M_X7_fail sv_X6_72 rfl dX6_readRun_73 rfl (Nat.le_of_ble_eq_true rfl) (by decide) (by decide) (by show nc + 0 ≤ 0; omega) (by show ns + 0 ≤ 0; omega) wr w (fun h3 w => ?_)
        refine zm_goto (tgt := 93) C dX6_readRun_76 (by decide) ?_
        exact zm_loc [0, 1, 3, 5, 6, 7] rfl w
    · replace w := w.2 z
      refine zm_iload C 6 rfl dX6_readRun_47 ?_
      refine zm_goto (tgt := 62) C dX6_readRun_49 (by decide) ?_
      refine zm_istore (L' := [(0, .ref a0), (1, .ref a1), (2, .int i2), (3, .int i3), (4, .long v1), (6, .long ((v1.toUInt64 >>> ((nI 1).toInt64.toUInt64 &&& Int64.toUInt64 63)).toInt64)), (8, .int ((if nI 1000 < i2 then nI 1000 else i2) - v2)), (9, .int (nI 0)), (10, .int ((if nI 1000 < i2 then nI 1000 else i2) - v2))]) C (by decide) [1, 2, 3, 4, 5, 6, 7, 8, 0] dX6_readRun_62 rfl ?_
      refine zm_lload C 5 rfl dX6_readRun_64 ?_
      refine zm_lconst (v := lN 0) C (by decide) dX6_readRun_66 ?_
      refine zm_lcmp C dX6_readRun_67 ?_
      refine zm_if_ne (tgt := 79) C dX6_readRun_68 (by decide) (fun z => ?_) (fun z => ?_)
      · replace w := w.1 z
        refine zm_lload C 5 rfl dX6_readRun_79 ?_
        refine zm_iload C 8 rfl dX6_readRun_81 ?_
        refine zm_i2l C dX6_readRun_83 ?_
        refine zm_lcmp C dX6_readRun_84 ?_
        refine zm_if_le (tgt := 93) C dX6_readRun_85 (by decide) (fun z => ?_) (fun z => ?_)
        · replace w := w.1 z
          exact zm_loc [0, 1, 3, 5, 6, 7] rfl w
        · replace w := w.2 z
          refine zm_aload_n C rfl 1 rfl dX6_readRun_88 ?_
          refine zm_iconst (v := nI 4) C (by decide) dX6_readRun_89 ?_
          obtain ⟨wr, w⟩ := w
          refine zm_Vv (As := [.int (nI 4)]) (rest := []) C M_X7_fail sv_X6_72 rfl dX6_readRun_90 rfl (Nat.le_of_ble_eq_true rfl) (by decide) (by decide) (by show nc + 0 ≤ 0; omega) (by show ns + 0 ≤ 0; omega) wr w (fun h4 w => ?_)
          exact zm_loc [0, 1, 3, 5, 6, 7] rfl w
      · replace w := w.2 z
        refine zm_aload_n C rfl 1 rfl dX6_readRun_71 ?_
        refine zm_iconst (v := nI 3) C (by decide) dX6_readRun_72 ?_
        obtain ⟨wr, w⟩ := w
        refine zm_Vv (As := [.int (nI 3)]) (rest := []) C M_X7_fail sv_X6_72 rfl dX6_readRun_73 rfl (Nat.le_of_ble_eq_true rfl) (by decide) (by decide) (by show nc + 0 ≤ 0; omega) (by show ns + 0 ≤ 0; omega) wr w (fun h5 w => ?_)
        refine zm_goto (tgt := 93) C dX6_readRun_76 (by decide) ?_
        exact zm_loc [0, 1, 3, 5, 6, 7] rfl w
  · replace w := w.2 z
    refine zm_iconst (v := nI 1) C (by decide) dX6_readRun_35 ?_
    refine zm_goto (tgt := 40) C dX6_readRun_36 (by decide) ?_
    refine zm_istore (L' := [(0, .ref a0), (1, .ref a1), (2, .int i2), (3, .int i3), (4, .long v1), (6, .long ((v1.toUInt64 >>> ((nI 1).toInt64.toUInt64 &&& Int64.toUInt64 63)).toInt64)), (8, .int ((if nI 1000 < i2 then nI 1000 else i2) - v2)), (9, .int (nI 1))]) C (by decide) [1, 2, 3, 4, 5, 6, 7, 0] dX6_readRun_40 rfl ?_
    refine zm_iload C 7 rfl dX6_readRun_42 ?_
    refine zm_if_eq (tgt := 52) C dX6_readRun_44 (by decide) (fun z => ?_) (fun z => ?_)
    · replace w := w.1 z
      refine zm_iload C 6 rfl dX6_readRun_52 ?_
      refine zm_bipush (v := nI 8) C (by decide) dX6_readRun_54 ?_
      refine zm_iadd C dX6_readRun_56 ?_
      refine zm_iconst (v := nI 1) C (by decide) dX6_readRun_57 ?_
      refine zm_isub C dX6_readRun_58 ?_
      refine zm_bipush (v := nI 8) C (by decide) dX6_readRun_59 ?_
      refine zm_idiv C w.1 dX6_readRun_61 ?_
      replace w := w.2
      refine zm_istore (L' := [(0, .ref a0), (1, .ref a1), (2, .int i2), (3, .int i3), (4, .long v1), (6, .long ((v1.toUInt64 >>> ((nI 1).toInt64.toUInt64 &&& Int64.toUInt64 63)).toInt64)), (8, .int ((if nI 1000 < i2 then nI 1000 else i2) - v2)), (9, .int (nI 1)), (10, .int (((((if nI 1000 < i2 then nI 1000 else i2) - v2) + (nI 8)) - (nI 1)) / (nI 8)))]) C (by decide) [1, 2, 3, 4, 5, 6, 7, 8, 0] dX6_readRun_62 rfl ?_
      refine zm_lload C 5 rfl dX6_readRun_64 ?_
      refine zm_lconst (v := lN 0) C (by decide) dX6_readRun_66 ?_
      refine zm_lcmp C dX6_readRun_67 ?_
      refine zm_if_ne (tgt := 79) C dX6_readRun_68 (by decide) (fun z => ?_) (fun z => ?_)
      · replace w := w.1 z
        refine zm_lload C 5 rfl dX6_readRun_79 ?_
        refine zm_iload C 8 rfl dX6_readRun_81 ?_
        refine zm_i2l C dX6_readRun_83 ?_
        refine zm_lcmp C dX6_readRun_84 ?_
        refine zm_if_le (tgt := 93) C dX6_readRun_85 (by decide) (fun z => ?_) (fun z => ?_)
        · replace w := w.1 z
          exact zm_loc [0, 1, 3, 5, 6, 7] rfl w
        · replace w := w.2 z
          refine zm_aload_n C rfl 1 rfl dX6_readRun_88 ?_
          refine zm_iconst (v := nI 4) C (by decide) dX6_readRun_89 ?_
          obtain ⟨wr, w⟩ := w
          refine zm_Vv (As := [.int (nI 4)]) (rest := []) C M_X7_fail sv_X6_72 rfl dX6_readRun_90 rfl (Nat.le_of_ble_eq_true rfl) (by decide) (by decide) (by show nc + 0 ≤ 0; omega) (by show ns + 0 ≤ 0; omega) wr w (fun h6 w => ?_)
          exact zm_loc [0, 1, 3, 5, 6, 7] rfl w
      · replace w := w.2 z
        refine zm_aload_n C rfl 1 rfl dX6_readRun_71 ?_
        refine zm_iconst (v := nI 3) C (by decide) dX6_readRun_72 ?_
        obtain ⟨wr, w⟩ := w
        refine zm_Vv (As := [.int (nI 3)]) (rest := []) C M_X7_fail sv_X6_72 rfl dX6_readRun_73 rfl (Nat.le_of_ble_eq_true rfl) (by decide) (by decide) (by show nc + 0 ≤ 0; omega) (by show ns + 0 ≤ 0; omega) wr w (fun h7 w => ?_)
        refine zm_goto (tgt := 93) C dX6_readRun_76 (by decide) ?_
        exact zm_loc [0, 1, 3, 5, 6, 7] rfl w
    · replace w := w.2 z
      refine zm_iload C 6 rfl dX6_readRun_47 ?_
      refine zm_goto (tgt := 62) C dX6_readRun_49 (by decide) ?_
      refine zm_istore (L' := [(0, .ref a0), (1, .ref a1), (2, .int i2), (3, .int i3), (4, .long v1), (6, .long ((v1.toUInt64 >>> ((nI 1).toInt64.toUInt64 &&& Int64.toUInt64 63)).toInt64)), (8, .int ((if nI 1000 < i2 then nI 1000 else i2) - v2)), (9, .int (nI 1)), (10, .int ((if nI 1000 < i2 then nI 1000 else i2) - v2))]) C (by decide) [1, 2, 3, 4, 5, 6, 7, 8, 0] dX6_readRun_62 rfl ?_
      refine zm_lload C 5 rfl dX6_readRun_64 ?_
      refine zm_lconst (v := lN 0) C (by decide) dX6_readRun_66 ?_
      refine zm_lcmp C dX6_readRun_67 ?_
      refine zm_if_ne (tgt := 79) C dX6_readRun_68 (by decide) (fun z => ?_) (fun z => ?_)
      · replace w := w.1 z
        refine zm_lload C 5 rfl dX6_readRun_79 ?_
        refine zm_iload C 8 rfl dX6_readRun_81 ?_
        refine zm_i2l C dX6_readRun_83 ?_
        refine zm_lcmp C dX6_readRun_84 ?_
        refine zm_if_le (tgt := 93) C dX6_readRun_85 (by decide) (fun z => ?_) (fun z => ?_)
        · replace w := w.1 z
          exact zm_loc [0, 1, 3, 5, 6, 7] rfl w
        · replace w := w.2 z
          refine zm_aload_n C rfl 1 rfl dX6_readRun_88 ?_
          refine zm_iconst (v := nI 4) C (by decide) dX6_readRun_89 ?_
          obtain ⟨wr, w⟩ := w
          refine zm_Vv (As := [.int (nI 4)]) (rest := []) C M_X7_fail sv_X6_72 rfl dX6_readRun_90 rfl (Nat.le_of_ble_eq_true rfl) (by decide) (by decide) (by show nc + 0 ≤ 0; omega) (by show ns + 0 ≤ 0; omega) wr w (fun h8 w => ?_)
          exact zm_loc [0, 1, 3, 5, 6, 7] rfl w
      · replace w := w.2 z
        refine zm_aload_n C rfl 1 rfl dX6_readRun_71 ?_
        refine zm_iconst (v := nI 3) C (by decide) dX6_readRun_72 ?_
        obtain ⟨wr, w⟩ := w
        refine zm_Vv (As := [.int (nI 3)]) (rest := []) C M_X7_fail sv_X6_72 rfl dX6_readRun_73 rfl (Nat.le_of_ble_eq_true rfl) (by decide) (by decide) (by show nc + 0 ≤ 0; omega) (by show ns + 0 ≤ 0; omega) wr w (fun h9 w => ?_)
        refine zm_goto (tgt := 93) C dX6_readRun_76 (by decide) ?_
        exact zm_loc [0, 1, 3, 5, 6, 7] rfl w
set_option maxRecDepth 20000 in
theorem B_X6_readRun_93 {E : zm_E} {K : zm_K} {Post : zm_Po} {nc ns : Nat} (C : zm_Cx E K cX6_readRun RX6 4 68 0 0 11) (Rt : zm_Rt E Post 0 0 none) {a0 : Nat} {a1 : Nat} {i3 : Int32} {l6 : Int64} {i8 : Int32} {i9 : Int32} {h : zm_H} (hnc : nc ≤ 0) (hns : ns ≤ 0) (w : zm_rc h a1 7 ∧ zm_ci K M_X7_failed [.ref a1] h fun v1 h1 => (v1 = 0 → (i9 = 0 → zm_rc h1 a0 6 ∧ zm_cv K M_X6_readGroups [.ref a0, .ref a1, .int l6.toInt32, .int i8, .int i3] h1 fun h2 => zm_Go E nc ns 129 [] [] h2) ∧ (¬ i9 = 0 → zm_rc h1 a0 6 ∧ zm_cv K M_X6_readOne [.ref a0, .ref a1, .int l6.toInt32, .int i3] h1 fun h3 => zm_Go E nc ns 129 [] [] h3)) ∧ (¬ v1 = 0 → Post none h1)) : zm_Go E nc ns 93 [(0, .ref a0), (1, .ref a1), (3, .int i3), (6, .long l6), (8, .int i8), (9, .int i9)] [] h := by
  refine zm_aload_n C rfl 1 rfl dX6_readRun_93 ?_
  obtain ⟨wr, w⟩ := w
  refine zm_Vi (As := []) (rest := []) C M_X7_failed sv_X6_58 rfl dX6_readRun_94 rfl (Nat.le_of_ble_eq_true rfl) (by decide) (by decide) (by show nc + 0 ≤ 0; omega) (by show ns + 0 ≤ 0; omega) wr w (fun v1 h1 w => ?_)
  refine zm_if_eq (tgt := 101) C dX6_readRun_97 (by decide) (fun z => ?_) (fun z => ?_)
  · replace w := w.1 z
    refine zm_iload C 5 rfl dX6_readRun_101 ?_
    refine zm_if_eq (tgt := 118) C dX6_readRun_103 (by decide) (fun z => ?_) (fun z => ?_)
    · replace w := w.1 z
      refine zm_aload_n C rfl 0 rfl dX6_readRun_118 ?_
      refine zm_aload_n C rfl 1 rfl dX6_readRun_119 ?_
      refine zm_lload C 3 rfl dX6_readRun_120 ?_
      refine zm_l2i C dX6_readRun_122 ?_
      refine zm_iload C 4 rfl dX6_readRun_123 ?_
      refine zm_iload_n C rfl 2 rfl dX6_readRun_125 ?_
      obtain ⟨wr, w⟩ := w
      refine zm_Vv (As := [.ref a1, .int l6.toInt32, .int i8, .int i3]) (rest := []) C M_X6_readGroups sv_X6_78 rfl dX6_readRun_126 rfl (Nat.le_of_ble_eq_true rfl) (by decide) (by decide) (by show nc + 0 ≤ 0; omega) (by show ns + 0 ≤ 0; omega) wr w (fun h2 w => ?_)
      exact zm_loc [] rfl w
    · replace w := w.2 z
      refine zm_aload_n C rfl 0 rfl dX6_readRun_106 ?_
      refine zm_aload_n C rfl 1 rfl dX6_readRun_107 ?_
      refine zm_lload C 3 rfl dX6_readRun_108 ?_
      refine zm_l2i C dX6_readRun_110 ?_
      refine zm_iload_n C rfl 2 rfl dX6_readRun_111 ?_
      obtain ⟨wr, w⟩ := w
      refine zm_Vv (As := [.ref a1, .int l6.toInt32, .int i3]) (rest := []) C M_X6_readOne sv_X6_75 rfl dX6_readRun_112 rfl (Nat.le_of_ble_eq_true rfl) (by decide) (by decide) (by show nc + 0 ≤ 0; omega) (by show ns + 0 ≤ 0; omega) wr w (fun h3 w => ?_)
      refine zm_goto (tgt := 129) C dX6_readRun_115 (by decide) ?_
      exact zm_loc [] rfl w
  · replace w := w.2 z
    exact zm_return C Rt (by show nc ≤ 0; omega) (by show ns ≤ 0; omega) dX6_readRun_100 w
set_option maxRecDepth 20000 in
theorem B_X6_readRun_129 {E : zm_E} {K : zm_K} {Post : zm_Po} {nc ns : Nat} (C : zm_Cx E K cX6_readRun RX6 4 68 0 0 11) (Rt : zm_Rt E Post 0 0 none)  {h : zm_H} (hnc : nc ≤ 0) (hns : ns ≤ 0) (w : Post none h) : zm_Go E nc ns 129 [] [] h := by
  exact zm_return C Rt (by show nc ≤ 0; omega) (by show ns ≤ 0; omega) dX6_readRun_129 w
set_option maxRecDepth 20000 in
theorem B_X6_readOne_0 {E : zm_E} {K : zm_K} {Post : zm_Po} {nc ns : Nat} (C : zm_Cx E K cX6_readOne RX6 2 29 0 0 8) (Rt : zm_Rt E Post 0 0 none) {a0 : Nat} {a1 : Nat} {i2 : Int32} {i3 : Int32} {h : zm_H} (hnc : nc ≤ 0) (hns : ns ≤ 0) (w : ¬ (nI 8) = 0 ∧ zm_rc h a1 7 ∧ zm_ci K M_X7_holds [.ref a1, .long (((i3 + (nI 7)) / (nI 8)).toInt64)] h fun v1 h1 => (¬ v1 = 0 → zm_rc h1 a1 7 ∧ zm_cl K M_X7_bitsAt [.ref a1, .int i3, .int ((((i3 + (nI 7)) / (nI 8)) * (nI 8)) - i3)] h1 fun v2 h2 => ((lg_cmp v2 (lN 0)) = 0 → zm_rc h2 a1 7 ∧ zm_cl K M_X7_bitsAt [.ref a1, .int (nI 0), .int i3] h2 fun v3 h3 => zm_Go E nc ns 53 [(0, .ref a0), (1, .ref a1), (2, .int i2), (4, .int ((i3 + (nI 7)) / (nI 8))), (5, .long v3), (7, .int (nI 0))] [] h3) ∧ (¬ (lg_cmp v2 (lN 0)) = 0 → zm_rc h2 a1 7 ∧ zm_cv K M_X7_fail [.ref a1, .int (nI 5)] h2 fun h4 => zm_rc h4 a1 7 ∧ zm_cl K M_X7_bitsAt [.ref a1, .int (nI 0), .int i3] h4 fun v4 h5 => zm_Go E nc ns 53 [(0, .ref a0), (1, .ref a1), (2, .int i2), (4, .int ((i3 + (nI 7)) / (nI 8))), (5, .long v4), (7, .int (nI 0))] [] h5)) ∧ (v1 = 0 → Post none h1)) : zm_Go E nc ns 0 [(0, .ref a0), (1, .ref a1), (2, .int i2), (3, .int i3)] [] h := by
  refine zm_iload_n C rfl 3 rfl dX6_readOne_0 ?_
  refine zm_bipush (v := nI 7) C (by decide) dX6_readOne_1 ?_
  refine zm_iadd C dX6_readOne_3 ?_
  refine zm_bipush (v := nI 8) C (by decide) dX6_readOne_4 ?_
  refine zm_idiv C w.1 dX6_readOne_6 ?_
  replace w := w.2
  refine zm_istore (L' := [(0, .ref a0), (1, .ref a1), (2, .int i2), (3, .int i3), (4, .int ((i3 + (nI 7)) / (nI 8)))]) C (by decide) [1, 2, 3, 4, 0] dX6_readOne_7 rfl ?_
  refine zm_aload_n C rfl 1 rfl dX6_readOne_9 ?_
  refine zm_iload C 4 rfl dX6_readOne_10 ?_
  refine zm_i2l C dX6_readOne_12 ?_
  obtain ⟨wr, w⟩ := w
  refine zm_Vi (As := [.long (((i3 + (nI 7)) / (nI 8)).toInt64)]) (rest := []) C M_X7_holds sv_X6_82 rfl dX6_readOne_13 rfl (Nat.le_of_ble_eq_true rfl) (by decide) (by decide) (by show nc + 0 ≤ 0; omega) (by show ns + 0 ≤ 0; omega) wr w (fun v1 h1 w => ?_)
  refine zm_if_ne (tgt := 20) C dX6_readOne_16 (by decide) (fun z => ?_) (fun z => ?_)
  · replace w := w.1 z
    refine zm_aload_n C rfl 1 rfl dX6_readOne_20 ?_
    refine zm_iload_n C rfl 3 rfl dX6_readOne_21 ?_
    refine zm_iload C 4 rfl dX6_readOne_22 ?_
    refine zm_bipush (v := nI 8) C (by decide) dX6_readOne_24 ?_
    refine zm_imul C dX6_readOne_26 ?_
    refine zm_iload_n C rfl 3 rfl dX6_readOne_27 ?_
    refine zm_isub C dX6_readOne_28 ?_
    obtain ⟨wr, w⟩ := w
    refine zm_Vl (As := [.int i3, .int ((((i3 + (nI 7)) / (nI 8)) * (nI 8)) - i3)]) (rest := []) C M_X7_bitsAt sv_X6_86 rfl dX6_readOne_29 rfl (Nat.le_of_ble_eq_true rfl) (by decide) (by decide) (by show nc + 0 ≤ 0; omega) (by show ns + 0 ≤ 0; omega) wr w (fun v2 h2 w => ?_)
    refine zm_lconst (v := lN 0) C (by decide) dX6_readOne_32 ?_
    refine zm_lcmp C dX6_readOne_33 ?_
    refine zm_if_eq (tgt := 42) C dX6_readOne_34 (by decide) (fun z => ?_) (fun z => ?_)
    · replace w := w.1 z
      refine zm_aload_n C rfl 1 rfl dX6_readOne_42 ?_
      refine zm_iconst (v := nI 0) C (by decide) dX6_readOne_43 ?_
      refine zm_iload_n C rfl 3 rfl dX6_readOne_44 ?_
      obtain ⟨wr, w⟩ := w
      refine zm_Vl (As := [.int (nI 0), .int i3]) (rest := []) C M_X7_bitsAt sv_X6_86 rfl dX6_readOne_45 rfl (Nat.le_of_ble_eq_true rfl) (by decide) (by decide) (by show nc + 0 ≤ 0; omega) (by show ns + 0 ≤ 0; omega) wr w (fun v3 h3 w => ?_)
      refine zm_lstore (L' := [(0, .ref a0), (1, .ref a1), (2, .int i2), (3, .int i3), (4, .int ((i3 + (nI 7)) / (nI 8))), (5, .long v3)]) C (by decide) [1, 2, 3, 4, 5, 0] dX6_readOne_48 rfl ?_
      refine zm_iconst (v := nI 0) C (by decide) dX6_readOne_50 ?_
      refine zm_istore (L' := [(0, .ref a0), (1, .ref a1), (2, .int i2), (3, .int i3), (4, .int ((i3 + (nI 7)) / (nI 8))), (5, .long v3), (7, .int (nI 0))]) C (by decide) [1, 2, 3, 4, 5, 6, 0] dX6_readOne_51 rfl ?_
      exact zm_loc [0, 1, 2, 4, 5, 6] rfl w
    · replace w := w.2 z
      refine zm_aload_n C rfl 1 rfl dX6_readOne_37 ?_
      refine zm_iconst (v := nI 5) C (by decide) dX6_readOne_38 ?_
      obtain ⟨wr, w⟩ := w
      refine zm_Vv (As := [.int (nI 5)]) (rest := []) C M_X7_fail sv_X6_72 rfl dX6_readOne_39 rfl (Nat.le_of_ble_eq_true rfl) (by decide) (by decide) (by show nc + 0 ≤ 0; omega) (by show ns + 0 ≤ 0; omega) wr w (fun h4 w => ?_)
      refine zm_aload_n C rfl 1 rfl dX6_readOne_42 ?_
      refine zm_iconst (v := nI 0) C (by decide) dX6_readOne_43 ?_
      refine zm_iload_n C rfl 3 rfl dX6_readOne_44 ?_
      obtain ⟨wr, w⟩ := w
      refine zm_Vl (As := [.int (nI 0), .int i3]) (rest := []) C M_X7_bitsAt sv_X6_86 rfl dX6_readOne_45 rfl (Nat.le_of_ble_eq_true rfl) (by decide) (by decide) (by show nc + 0 ≤ 0; omega) (by show ns + 0 ≤ 0; omega) wr w (fun v4 h5 w => ?_)
      refine zm_lstore (L' := [(0, .ref a0), (1, .ref a1), (2, .int i2), (3, .int i3), (4, .int ((i3 + (nI 7)) / (nI 8))), (5, .long v4)]) C (by decide) [1, 2, 3, 4, 5, 0] dX6_readOne_48 rfl ?_
      refine zm_iconst (v := nI 0) C (by decide) dX6_readOne_50 ?_
      refine zm_istore (L' := [(0, .ref a0), (1, .ref a1), (2, .int i2), (3, .int i3), (4, .int ((i3 + (nI 7)) / (nI 8))), (5, .long v4), (7, .int (nI 0))]) C (by decide) [1, 2, 3, 4, 5, 6, 0] dX6_readOne_51 rfl ?_
      exact zm_loc [0, 1, 2, 4, 5, 6] rfl w
  · replace w := w.2 z
    exact zm_return C Rt (by show nc ≤ 0; omega) (by show ns ≤ 0; omega) dX6_readOne_19 w
set_option maxRecDepth 20000 in
theorem B_X6_readOne_53 {E : zm_E} {K : zm_K} {Post : zm_Po} {nc ns : Nat} (C : zm_Cx E K cX6_readOne RX6 2 29 0 0 8) (Rt : zm_Rt E Post 0 0 none) {a0 : Nat} {a1 : Nat} {i2 : Int32} {i4 : Int32} {l5 : Int64} {i7 : Int32} {h : zm_H} (hnc : nc ≤ 0) (hns : ns ≤ 0) (w : (i2 ≤ i7 → zm_gI h a1 7 1 fun v1 => zm_pf h a1 7 1 (.int (v1 + i4)) fun h1 => Post none h1) ∧ (¬ i2 ≤ i7 → zm_gR h a0 6 0 fun v2 => zm_gI h a0 6 1 fun v3 => zm_sL K h v2 v3 l5 fun h2 => zm_gI h2 a0 6 1 fun v4 => zm_pf h2 a0 6 1 (.int (v4 + (nI 1))) fun h3 => zm_Go E nc ns 53 [(0, .ref a0), (1, .ref a1), (2, .int i2), (4, .int i4), (5, .long l5), (7, .int (i7 + (nI 1)))] [] h3)) : zm_Go E nc ns 53 [(0, .ref a0), (1, .ref a1), (2, .int i2), (4, .int i4), (5, .long l5), (7, .int i7)] [] h := by
  refine zm_iload C 5 rfl dX6_readOne_53 ?_
  refine zm_iload_n C rfl 2 rfl dX6_readOne_55 ?_
  refine zm_icmp_ge (tgt := 86) C dX6_readOne_56 (by decide) (fun z => ?_) (fun z => ?_)
  · replace w := w.1 z
    refine zm_aload_n C rfl 1 rfl dX6_readOne_86 ?_
    refine zm_dup C rfl dX6_readOne_87 ?_
    refine zm_getI C ff_X6_90 dX6_readOne_88 w (fun v1 w => ?_)
    refine zm_iload C 3 rfl dX6_readOne_91 ?_
    refine zm_iadd C dX6_readOne_93 ?_
    refine zm_put C ff_X6_90 ft_X7 fp_X6_7_1 rfl rfl dX6_readOne_94 w (fun h1 w => ?_)
    exact zm_return C Rt (by show nc ≤ 0; omega) (by show ns ≤ 0; omega) dX6_readOne_97 w
  · replace w := w.2 z
    refine zm_aload_n C rfl 0 rfl dX6_readOne_59 ?_
    refine zm_getR C ff_X6_9 dX6_readOne_60 w (fun v2 w => ?_)
    refine zm_aload_n C rfl 0 rfl dX6_readOne_63 ?_
    refine zm_getI C ff_X6_15 dX6_readOne_64 w (fun v3 w => ?_)
    refine zm_lload C 4 rfl dX6_readOne_67 ?_
    refine zm_stL C dX6_readOne_69 w (fun h2 w => ?_)
    refine zm_aload_n C rfl 0 rfl dX6_readOne_70 ?_
    refine zm_dup C rfl dX6_readOne_71 ?_
    refine zm_getI C ff_X6_15 dX6_readOne_72 w (fun v4 w => ?_)
    refine zm_iconst (v := nI 1) C (by decide) dX6_readOne_75 ?_
    refine zm_iadd C dX6_readOne_76 ?_
    refine zm_put C ff_X6_15 ft_X6 fp_X6_6_1 rfl rfl dX6_readOne_77 w (fun h3 w => ?_)
    refine zm_iinc (L' := [(0, .ref a0), (1, .ref a1), (2, .int i2), (4, .int i4), (5, .long l5), (7, .int (i7 + (nI 1)))]) C (by decide) 5 [1, 2, 3, 4, 5, 0] dX6_readOne_80 rfl rfl rfl ?_
    refine zm_goto (tgt := 53) C dX6_readOne_83 (by decide) ?_
    exact w
set_option maxRecDepth 20000 in
theorem B_X6_readGroups_0 {E : zm_E} {K : zm_K} {Post : zm_Po} {nc ns : Nat} (C : zm_Cx E K cX6_readGroups RX6 2 29 0 0 8) (Rt : zm_Rt E Post 0 0 none) {a0 : Nat} {a1 : Nat} {i2 : Int32} {i3 : Int32} {i4 : Int32} {h : zm_H} (hnc : nc ≤ 0) (hns : ns ≤ 0) (w : zm_rc h a1 7 ∧ zm_ci K M_X7_holds [.ref a1, .long ((i2 * i4).toInt64)] h fun v1 h1 => (¬ v1 = 0 → zm_Go E nc ns 16 [(0, .ref a0), (1, .ref a1), (2, .int i2), (3, .int i3), (4, .int i4), (5, .int (nI 0))] [] h1) ∧ (v1 = 0 → Post none h1)) : zm_Go E nc ns 0 [(0, .ref a0), (1, .ref a1), (2, .int i2), (3, .int i3), (4, .int i4)] [] h := by
  refine zm_aload_n C rfl 1 rfl dX6_readGroups_0 ?_
  refine zm_iload_n C rfl 2 rfl dX6_readGroups_1 ?_
  refine zm_iload C 4 rfl dX6_readGroups_2 ?_
  refine zm_imul C dX6_readGroups_4 ?_
  refine zm_i2l C dX6_readGroups_5 ?_
  obtain ⟨wr, w⟩ := w
  refine zm_Vi (As := [.long ((i2 * i4).toInt64)]) (rest := []) C M_X7_holds sv_X6_82 rfl dX6_readGroups_6 rfl (Nat.le_of_ble_eq_true rfl) (by decide) (by decide) (by show nc + 0 ≤ 0; omega) (by show ns + 0 ≤ 0; omega) wr w (fun v1 h1 w => ?_)
  refine zm_if_ne (tgt := 13) C dX6_readGroups_9 (by decide) (fun z => ?_) (fun z => ?_)
  · replace w := w.1 z
    refine zm_iconst (v := nI 0) C (by decide) dX6_readGroups_13 ?_
    refine zm_istore (L' := [(0, .ref a0), (1, .ref a1), (2, .int i2), (3, .int i3), (4, .int i4), (5, .int (nI 0))]) C (by decide) [1, 2, 3, 4, 5, 0] dX6_readGroups_14 rfl ?_
    exact w
  · replace w := w.2 z
    exact zm_return C Rt (by show nc ≤ 0; omega) (by show ns ≤ 0; omega) dX6_readGroups_12 w
set_option maxRecDepth 20000 in
theorem B_X6_readGroups_16 {E : zm_E} {K : zm_K} {Post : zm_Po} {nc ns : Nat} (C : zm_Cx E K cX6_readGroups RX6 2 29 0 0 8) (Rt : zm_Rt E Post 0 0 none) {a0 : Nat} {a1 : Nat} {i2 : Int32} {i3 : Int32} {i4 : Int32} {i5 : Int32} {h : zm_H} (hnc : nc ≤ 0) (hns : ns ≤ 0) (w : ((i2 * (nI 8)) ≤ i5 → zm_gI h a1 7 1 fun v1 => zm_pf h a1 7 1 (.int (v1 + (i2 * i4))) fun h1 => Post none h1) ∧ (¬ (i2 * (nI 8)) ≤ i5 → zm_rc h a1 7 ∧ zm_cl K M_X7_bitsAt [.ref a1, .int (i5 * i4), .int i4] h fun v2 h2 => (i3 ≤ i5 → ((lg_cmp v2 (lN 0)) = 0 → zm_Go E nc ns 16 [(0, .ref a0), (1, .ref a1), (2, .int i2), (3, .int i3), (4, .int i4), (5, .int (i5 + (nI 1)))] [] h2) ∧ (¬ (lg_cmp v2 (lN 0)) = 0 → zm_rc h2 a1 7 ∧ zm_cv K M_X7_fail [.ref a1, .int (nI 5)] h2 fun h3 => zm_Go E nc ns 16 [(0, .ref a0), (1, .ref a1), (2, .int i2), (3, .int i3), (4, .int i4), (5, .int (i5 + (nI 1)))] [] h3)) ∧ (¬ i3 ≤ i5 → zm_gR h2 a0 6 0 fun v3 => zm_gI h2 a0 6 1 fun v4 => zm_sL K h2 v3 v4 v2 fun h4 => zm_gI h4 a0 6 1 fun v5 => zm_pf h4 a0 6 1 (.int (v5 + (nI 1))) fun h5 => zm_Go E nc ns 16 [(0, .ref a0), (1, .ref a1), (2, .int i2), (3, .int i3), (4, .int i4), (5, .int (i5 + (nI 1)))] [] h5))) : zm_Go E nc ns 16 [(0, .ref a0), (1, .ref a1), (2, .int i2), (3, .int i3), (4, .int i4), (5, .int i5)] [] h := by
  refine zm_iload C 5 rfl dX6_readGroups_16 ?_
  refine zm_iload_n C rfl 2 rfl dX6_readGroups_18 ?_
  refine zm_bipush (v := nI 8) C (by decide) dX6_readGroups_19 ?_
  refine zm_imul C dX6_readGroups_21 ?_
  refine zm_icmp_ge (tgt := 86) C dX6_readGroups_22 (by decide) (fun z => ?_) (fun z => ?_)
  · replace w := w.1 z
    refine zm_aload_n C rfl 1 rfl dX6_readGroups_86 ?_
    refine zm_dup C rfl dX6_readGroups_87 ?_
    refine zm_getI C ff_X6_90 dX6_readGroups_88 w (fun v1 w => ?_)
    refine zm_iload_n C rfl 2 rfl dX6_readGroups_91 ?_
    refine zm_iload C 4 rfl dX6_readGroups_92 ?_
    refine zm_imul C dX6_readGroups_94 ?_
    refine zm_iadd C dX6_readGroups_95 ?_
    refine zm_put C ff_X6_90 ft_X7 fp_X6_7_1 rfl rfl dX6_readGroups_96 w (fun h1 w => ?_)
    exact zm_return C Rt (by show nc ≤ 0; omega) (by show ns ≤ 0; omega) dX6_readGroups_99 w
  · replace w := w.2 z
    refine zm_aload_n C rfl 1 rfl dX6_readGroups_25 ?_
    refine zm_iload C 5 rfl dX6_readGroups_26 ?_
    refine zm_iload C 4 rfl dX6_readGroups_28 ?_
    refine zm_imul C dX6_readGroups_30 ?_
    refine zm_iload C 4 rfl dX6_readGroups_31 ?_
    obtain ⟨wr, w⟩ := w
    refine zm_Vl (As := [.int (i5 * i4), .int i4]) (rest := []) C M_X7_bitsAt sv_X6_86 rfl dX6_readGroups_33 rfl (Nat.le_of_ble_eq_true rfl) (by decide) (by decide) (by show nc + 0 ≤ 0; omega) (by show ns + 0 ≤ 0; omega) wr w (fun v2 h2 w => ?_)
    refine zm_lstore (L' := [(0, .ref a0), (1, .ref a1), (2, .int i2), (3, .int i3), (4, .int i4), (5, .int i5), (6, .long v2)]) C (by decide) [1, 2, 3, 4, 5, 6, 0] dX6_readGroups_36 rfl ?_
    refine zm_iload C 5 rfl dX6_readGroups_38 ?_
    refine zm_iload_n C rfl 3 rfl dX6_readGroups_40 ?_
    refine zm_icmp_ge (tgt := 68) C dX6_readGroups_41 (by decide) (fun z => ?_) (fun z => ?_)
    · replace w := w.1 z
      refine zm_lload C 6 rfl dX6_readGroups_68 ?_
      refine zm_lconst (v := lN 0) C (by decide) dX6_readGroups_70 ?_
      refine zm_lcmp C dX6_readGroups_71 ?_
      refine zm_if_eq (tgt := 80) C dX6_readGroups_72 (by decide) (fun z => ?_) (fun z => ?_)
      · replace w := w.1 z
        refine zm_iinc (L' := [(0, .ref a0), (1, .ref a1), (2, .int i2), (3, .int i3), (4, .int i4), (5, .int (i5 + (nI 1))), (6, .long v2)]) C (by decide) 5 [1, 2, 3, 4, 5, 0, 6] dX6_readGroups_80 rfl rfl rfl ?_
        refine zm_goto (tgt := 16) C dX6_readGroups_83 (by decide) ?_
        exact zm_loc [0, 1, 2, 3, 4, 5] rfl w
      · replace w := w.2 z
        refine zm_aload_n C rfl 1 rfl dX6_readGroups_75 ?_
        refine zm_iconst (v := nI 5) C (by decide) dX6_readGroups_76 ?_
        obtain ⟨wr, w⟩ := w
        refine zm_Vv (As := [.int (nI 5)]) (rest := []) C M_X7_fail sv_X6_72 rfl dX6_readGroups_77 rfl (Nat.le_of_ble_eq_true rfl) (by decide) (by decide) (by show nc + 0 ≤ 0; omega) (by show ns + 0 ≤ 0; omega) wr w (fun h3 w => ?_)
        refine zm_iinc (L' := [(0, .ref a0), (1, .ref a1), (2, .int i2), (3, .int i3), (4, .int i4), (5, .int (i5 + (nI 1))), (6, .long v2)]) C (by decide) 5 [1, 2, 3, 4, 5, 0, 6] dX6_readGroups_80 rfl rfl rfl ?_
        refine zm_goto (tgt := 16) C dX6_readGroups_83 (by decide) ?_
        exact zm_loc [0, 1, 2, 3, 4, 5] rfl w
    · replace w := w.2 z
      refine zm_aload_n C rfl 0 rfl dX6_readGroups_44 ?_
      refine zm_getR C ff_X6_9 dX6_readGroups_45 w (fun v3 w => ?_)
      refine zm_aload_n C rfl 0 rfl dX6_readGroups_48 ?_
      refine zm_getI C ff_X6_15 dX6_readGroups_49 w (fun v4 w => ?_)
      refine zm_lload C 6 rfl dX6_readGroups_52 ?_
      refine zm_stL C dX6_readGroups_54 w (fun h4 w => ?_)
      refine zm_aload_n C rfl 0 rfl dX6_readGroups_55 ?_
      refine zm_dup C rfl dX6_readGroups_56 ?_
      refine zm_getI C ff_X6_15 dX6_readGroups_57 w (fun v5 w => ?_)
      refine zm_iconst (v := nI 1) C (by decide) dX6_readGroups_60 ?_
      refine zm_iadd C dX6_readGroups_61 ?_
      refine zm_put C ff_X6_15 ft_X6 fp_X6_6_1 rfl rfl dX6_readGroups_62 w (fun h5 w => ?_)
      refine zm_goto (tgt := 80) C dX6_readGroups_65 (by decide) ?_
      refine zm_iinc (L' := [(0, .ref a0), (1, .ref a1), (2, .int i2), (3, .int i3), (4, .int i4), (5, .int (i5 + (nI 1))), (6, .long v2)]) C (by decide) 5 [1, 2, 3, 4, 5, 0, 6] dX6_readGroups_80 rfl rfl rfl ?_
      refine zm_goto (tgt := 16) C dX6_readGroups_83 (by decide) ?_
      exact zm_loc [0, 1, 2, 3, 4, 5] rfl w
set_option maxRecDepth 20000 in
theorem B_X7_init_0 {E : zm_E} {K : zm_K} {Post : zm_Po} {nc ns : Nat} (C : zm_Cx E K cX7_init RX7 1 26 1 0 1) (Rt : zm_Rt E Post 1 0 none) {a0 : Nat} {h : zm_H} (hnc : nc + 1 ≤ 1) (hns : ns + 0 ≤ 0) (w : ¬ (nI 0) < 0 ∧ 0 * componentBytes .byte ≤ 536870912 ∧ ns + 0 ≤ 0 ∧ ∀ v1, h v1 = none → zm_pf (zm_set h v1 (.inl (K.2.2 0, 0, .inl (fun _ => 0)))) a0 7 0 (.ref v1) fun h1 => Post none h1) : zm_Go E nc ns 0 [(0, .ref a0)] [] h := by
  refine zm_aload_n C rfl 0 rfl dX7_init_0 ?_
  refine zm_objInit C (zm_inG (by decide +kernel) rfl) (zm_inG (by decide +kernel) rfl) zi_objInit (by decide) (by decide) (Nat.le_of_ble_eq_true rfl) dX7_init_1 ?_
  refine zm_aload_n C rfl 0 rfl dX7_init_4 ?_
  refine zm_iconst (v := nI 0) C (by decide) dX7_init_5 ?_
  obtain ⟨g1, g2, g3, w⟩ := w
  refine zm_newa (ty := .byte) (N := 0) (a0 := (0, .inl (fun _ => 0))) C 0 rfl (fun _ => rfl) (fun _ _ z => z) (zm_inG (by decide +kernel) rfl) (fun _ => rfl) dX7_init_6 g1 (by decide) g2 (by show nc + 1 ≤ 1; omega) g3 (fun v1 hq => ?_)
  replace w := w v1 hq
  refine zm_put C ff_X7_9 ft_X7 fp_X7_7_0 rfl rfl dX7_init_8 w (fun h1 w => ?_)
  exact zm_return C Rt (by show nc + 1 ≤ 1; omega) (by show ns + 0 ≤ 0; omega) dX7_init_11 w
set_option maxRecDepth 20000 in
theorem B_X7_open_0 {E : zm_E} {K : zm_K} {Post : zm_Po} {nc ns : Nat} (C : zm_Cx E K cX7_open RX7 1 0 0 0 2) (Rt : zm_Rt E Post 0 0 none) {a0 : Nat} {a1 : Nat} {h : zm_H} (hnc : nc ≤ 0) (hns : ns ≤ 0) (w : zm_gR h a1 0 0 fun v1 => zm_pf h a0 7 0 (.ref v1) fun h1 => zm_pf h1 a0 7 1 (.int (nI 0)) fun h2 => zm_gI h2 a1 0 1 fun v2 => zm_pf h2 a0 7 2 (.int v2) fun h3 => zm_pf h3 a0 7 3 (.int (nI 0)) fun h4 => Post none h4) : zm_Go E nc ns 0 [(0, .ref a0), (1, .ref a1)] [] h := by
  refine zm_aload_n C rfl 0 rfl dX7_open_0 ?_
  refine zm_aload_n C rfl 1 rfl dX7_open_1 ?_
  refine zm_getR C ff_X7_15 dX7_open_2 w (fun v1 w => ?_)
  refine zm_put C ff_X7_9 ft_X7 fp_X7_7_0 rfl rfl dX7_open_5 w (fun h1 w => ?_)
  refine zm_aload_n C rfl 0 rfl dX7_open_8 ?_
  refine zm_iconst (v := nI 0) C (by decide) dX7_open_9 ?_
  refine zm_put C ff_X7_18 ft_X7 fp_X7_7_1 rfl rfl dX7_open_10 w (fun h2 w => ?_)
  refine zm_aload_n C rfl 0 rfl dX7_open_13 ?_
  refine zm_aload_n C rfl 1 rfl dX7_open_14 ?_
  refine zm_getI C ff_X7_22 dX7_open_15 w (fun v2 w => ?_)
  refine zm_put C ff_X7_25 ft_X7 fp_X7_7_2 rfl rfl dX7_open_18 w (fun h3 w => ?_)
  refine zm_aload_n C rfl 0 rfl dX7_open_21 ?_
  refine zm_iconst (v := nI 0) C (by decide) dX7_open_22 ?_
  refine zm_put C ff_X7_28 ft_X7 fp_X7_7_3 rfl rfl dX7_open_23 w (fun h4 w => ?_)
  exact zm_return C Rt (by show nc ≤ 0; omega) (by show ns ≤ 0; omega) dX7_open_26 w
set_option maxRecDepth 20000 in
theorem B_X7_failed_0 {E : zm_E} {K : zm_K} {Post : zm_Po} {nc ns : Nat} (C : zm_Cx E K cX7_failed RX7 1 0 0 0 1) (Rt : zm_Rt E Post 0 0 (some .boolean)) {a0 : Nat} {h : zm_H} (hnc : nc ≤ 0) (hns : ns ≤ 0) (w : zm_gI h a0 7 3 fun v1 => (v1 = 0 → narrow .boolean (.int (nI 0)) = .int (nI 0) ∧ Post (some (.int (nI 0))) h) ∧ (¬ v1 = 0 → narrow .boolean (.int (nI 1)) = .int (nI 1) ∧ Post (some (.int (nI 1))) h)) : zm_Go E nc ns 0 [(0, .ref a0)] [] h := by
  refine zm_aload_n C rfl 0 rfl dX7_failed_0 ?_
  refine zm_getI C ff_X7_28 dX7_failed_1 w (fun v1 w => ?_)
  refine zm_if_eq (tgt := 11) C dX7_failed_4 (by decide) (fun z => ?_) (fun z => ?_)
  · replace w := w.1 z
    refine zm_iconst (v := nI 0) C (by decide) dX7_failed_11 ?_
    exact zm_ireturn C Rt (by show nc ≤ 0; omega) (by show ns ≤ 0; omega) w.1 dX7_failed_12 w.2
  · replace w := w.2 z
    refine zm_iconst (v := nI 1) C (by decide) dX7_failed_7 ?_
    refine zm_goto (tgt := 12) C dX7_failed_8 (by decide) ?_
    exact zm_ireturn C Rt (by show nc ≤ 0; omega) (by show ns ≤ 0; omega) w.1 dX7_failed_12 w.2
set_option maxRecDepth 20000 in
theorem B_X7_fail_0 {E : zm_E} {K : zm_K} {Post : zm_Po} {nc ns : Nat} (C : zm_Cx E K cX7_fail RX7 1 0 0 0 2) (Rt : zm_Rt E Post 0 0 none) {a0 : Nat} {i1 : Int32} {h : zm_H} (hnc : nc ≤ 0) (hns : ns ≤ 0) (w : zm_gI h a0 7 3 fun v1 => (¬ v1 = 0 → Post none h) ∧ (v1 = 0 → zm_pf h a0 7 3 (.int i1) fun h1 => Post none h1)) : zm_Go E nc ns 0 [(0, .ref a0), (1, .int i1)] [] h := by
  refine zm_aload_n C rfl 0 rfl dX7_fail_0 ?_
  refine zm_getI C ff_X7_28 dX7_fail_1 w (fun v1 w => ?_)
  refine zm_if_ne (tgt := 12) C dX7_fail_4 (by decide) (fun z => ?_) (fun z => ?_)
  · replace w := w.1 z
    exact zm_return C Rt (by show nc ≤ 0; omega) (by show ns ≤ 0; omega) dX7_fail_12 w
  · replace w := w.2 z
    refine zm_aload_n C rfl 0 rfl dX7_fail_7 ?_
    refine zm_iload_n C rfl 1 rfl dX7_fail_8 ?_
    refine zm_put C ff_X7_28 ft_X7 fp_X7_7_3 rfl rfl dX7_fail_9 w (fun h1 w => ?_)
    exact zm_return C Rt (by show nc ≤ 0; omega) (by show ns ≤ 0; omega) dX7_fail_12 w
set_option maxRecDepth 20000 in
theorem B_X7_holds_0 {E : zm_E} {K : zm_K} {Post : zm_Po} {nc ns : Nat} (C : zm_Cx E K cX7_holds RX7 1 0 0 0 3) (Rt : zm_Rt E Post 0 0 (some .boolean)) {a0 : Nat} {l1 : Int64} {h : zm_H} (hnc : nc ≤ 0) (hns : ns ≤ 0) (w : zm_gI h a0 7 3 fun v1 => (¬ v1 = 0 → zm_gI h a0 7 3 fun v2 => (¬ v2 = 0 → narrow .boolean (.int (nI 0)) = .int (nI 0) ∧ Post (some (.int (nI 0))) h) ∧ (v2 = 0 → narrow .boolean (.int (nI 1)) = .int (nI 1) ∧ Post (some (.int (nI 1))) h)) ∧ (v1 = 0 → ((lg_cmp l1 (lN 0)) < 0 → zm_pf h a0 7 3 (.int (nI 1)) fun h1 => zm_gI h1 a0 7 3 fun v3 => (¬ v3 = 0 → narrow .boolean (.int (nI 0)) = .int (nI 0) ∧ Post (some (.int (nI 0))) h1) ∧ (v3 = 0 → narrow .boolean (.int (nI 1)) = .int (nI 1) ∧ Post (some (.int (nI 1))) h1)) ∧ (¬ (lg_cmp l1 (lN 0)) < 0 → zm_gI h a0 7 2 fun v4 => zm_gI h a0 7 1 fun v5 => ((lg_cmp l1 ((v4 - v5).toInt64)) ≤ 0 → zm_gI h a0 7 3 fun v6 => (¬ v6 = 0 → narrow .boolean (.int (nI 0)) = .int (nI 0) ∧ Post (some (.int (nI 0))) h) ∧ (v6 = 0 → narrow .boolean (.int (nI 1)) = .int (nI 1) ∧ Post (some (.int (nI 1))) h)) ∧ (¬ (lg_cmp l1 ((v4 - v5).toInt64)) ≤ 0 → zm_pf h a0 7 3 (.int (nI 1)) fun h2 => zm_gI h2 a0 7 3 fun v7 => (¬ v7 = 0 → narrow .boolean (.int (nI 0)) = .int (nI 0) ∧ Post (some (.int (nI 0))) h2) ∧ (v7 = 0 → narrow .boolean (.int (nI 1)) = .int (nI 1) ∧ Post (some (.int (nI 1))) h2))))) : zm_Go E nc ns 0 [(0, .ref a0), (1, .long l1)] [] h := by
  refine zm_aload_n C rfl 0 rfl dX7_holds_0 ?_
  refine zm_getI C ff_X7_28 dX7_holds_1 w (fun v1 w => ?_)
  refine zm_if_ne (tgt := 33) C dX7_holds_4 (by decide) (fun z => ?_) (fun z => ?_)
  · replace w := w.1 z
    refine zm_aload_n C rfl 0 rfl dX7_holds_33 ?_
    refine zm_getI C ff_X7_28 dX7_holds_34 w (fun v2 w => ?_)
    refine zm_if_ne (tgt := 44) C dX7_holds_37 (by decide) (fun z => ?_) (fun z => ?_)
    · replace w := w.1 z
      refine zm_iconst (v := nI 0) C (by decide) dX7_holds_44 ?_
      exact zm_ireturn C Rt (by show nc ≤ 0; omega) (by show ns ≤ 0; omega) w.1 dX7_holds_45 w.2
    · replace w := w.2 z
      refine zm_iconst (v := nI 1) C (by decide) dX7_holds_40 ?_
      refine zm_goto (tgt := 45) C dX7_holds_41 (by decide) ?_
      exact zm_ireturn C Rt (by show nc ≤ 0; omega) (by show ns ≤ 0; omega) w.1 dX7_holds_45 w.2
  · replace w := w.2 z
    refine zm_lload_n C rfl 1 rfl dX7_holds_7 ?_
    refine zm_lconst (v := lN 0) C (by decide) dX7_holds_8 ?_
    refine zm_lcmp C dX7_holds_9 ?_
    refine zm_if_lt (tgt := 28) C dX7_holds_10 (by decide) (fun z => ?_) (fun z => ?_)
    · replace w := w.1 z
      refine zm_aload_n C rfl 0 rfl dX7_holds_28 ?_
      refine zm_iconst (v := nI 1) C (by decide) dX7_holds_29 ?_
      refine zm_put C ff_X7_28 ft_X7 fp_X7_7_3 rfl rfl dX7_holds_30 w (fun h1 w => ?_)
      refine zm_aload_n C rfl 0 rfl dX7_holds_33 ?_
      refine zm_getI C ff_X7_28 dX7_holds_34 w (fun v3 w => ?_)
      refine zm_if_ne (tgt := 44) C dX7_holds_37 (by decide) (fun z => ?_) (fun z => ?_)
      · replace w := w.1 z
        refine zm_iconst (v := nI 0) C (by decide) dX7_holds_44 ?_
        exact zm_ireturn C Rt (by show nc ≤ 0; omega) (by show ns ≤ 0; omega) w.1 dX7_holds_45 w.2
      · replace w := w.2 z
        refine zm_iconst (v := nI 1) C (by decide) dX7_holds_40 ?_
        refine zm_goto (tgt := 45) C dX7_holds_41 (by decide) ?_
        exact zm_ireturn C Rt (by show nc ≤ 0; omega) (by show ns ≤ 0; omega) w.1 dX7_holds_45 w.2
    · replace w := w.2 z
      refine zm_lload_n C rfl 1 rfl dX7_holds_13 ?_
      refine zm_aload_n C rfl 0 rfl dX7_holds_14 ?_
      refine zm_getI C ff_X7_25 dX7_holds_15 w (fun v4 w => ?_)
      refine zm_aload_n C rfl 0 rfl dX7_holds_18 ?_
      refine zm_getI C ff_X7_18 dX7_holds_19 w (fun v5 w => ?_)
      refine zm_isub C dX7_holds_22 ?_
      refine zm_i2l C dX7_holds_23 ?_
      refine zm_lcmp C dX7_holds_24 ?_
      refine zm_if_le (tgt := 33) C dX7_holds_25 (by decide) (fun z => ?_) (fun z => ?_)
      · replace w := w.1 z
        refine zm_aload_n C rfl 0 rfl dX7_holds_33 ?_
        refine zm_getI C ff_X7_28 dX7_holds_34 w (fun v6 w => ?_)
        refine zm_if_ne (tgt := 44) C dX7_holds_37 (by decide) (fun z => ?_) (fun z => ?_)
        · replace w := w.1 z
          refine zm_iconst (v := nI 0) C (by decide) dX7_holds_44 ?_
          exact zm_ireturn C Rt (by show nc ≤ 0; omega) (by show ns ≤ 0; omega) w.1 dX7_holds_45 w.2
        · replace w := w.2 z
          refine zm_iconst (v := nI 1) C (by decide) dX7_holds_40 ?_
          refine zm_goto (tgt := 45) C dX7_holds_41 (by decide) ?_
          exact zm_ireturn C Rt (by show nc ≤ 0; omega) (by show ns ≤ 0; omega) w.1 dX7_holds_45 w.2
      · replace w := w.2 z
        refine zm_aload_n C rfl 0 rfl dX7_holds_28 ?_
        refine zm_iconst (v := nI 1) C (by decide) dX7_holds_29 ?_
        refine zm_put C ff_X7_28 ft_X7 fp_X7_7_3 rfl rfl dX7_holds_30 w (fun h2 w => ?_)
        refine zm_aload_n C rfl 0 rfl dX7_holds_33 ?_
        refine zm_getI C ff_X7_28 dX7_holds_34 w (fun v7 w => ?_)
        refine zm_if_ne (tgt := 44) C dX7_holds_37 (by decide) (fun z => ?_) (fun z => ?_)
        · replace w := w.1 z
          refine zm_iconst (v := nI 0) C (by decide) dX7_holds_44 ?_
          exact zm_ireturn C Rt (by show nc ≤ 0; omega) (by show ns ≤ 0; omega) w.1 dX7_holds_45 w.2
        · replace w := w.2 z
          refine zm_iconst (v := nI 1) C (by decide) dX7_holds_40 ?_
          refine zm_goto (tgt := 45) C dX7_holds_41 (by decide) ?_
          exact zm_ireturn C Rt (by show nc ≤ 0; omega) (by show ns ≤ 0; omega) w.1 dX7_holds_45 w.2
set_option maxRecDepth 20000 in
theorem B_X7_nextByte_0 {E : zm_E} {K : zm_K} {Post : zm_Po} {nc ns : Nat} (C : zm_Cx E K cX7_nextByte RX7 2 21 0 0 2) (Rt : zm_Rt E Post 0 0 (some .int)) {a0 : Nat} {h : zm_H} (hnc : nc ≤ 0) (hns : ns ≤ 0) (w : zm_gI h a0 7 1 fun v1 => (v1 < 0 → zm_rc h a0 7 ∧ zm_cv K M_X7_fail [.ref a0, .int (nI 1)] h fun h1 => Post (some (.int (nI 0))) h1) ∧ (¬ v1 < 0 → zm_gI h a0 7 1 fun v2 => zm_gI h a0 7 2 fun v3 => (v3 ≤ v2 → zm_rc h a0 7 ∧ zm_cv K M_X7_fail [.ref a0, .int (nI 1)] h fun h2 => Post (some (.int (nI 0))) h2) ∧ (¬ v3 ≤ v2 → zm_gI h a0 7 1 fun v4 => zm_gR h a0 7 0 fun v5 => zm_al K 0 h v5 fun v6 => (v4 < v6 → zm_gR h a0 7 0 fun v7 => zm_gI h a0 7 1 fun v8 => zm_ld K 0 h v7 v8 fun v9 => zm_gI h a0 7 1 fun v10 => zm_pf h a0 7 1 (.int (v10 + (nI 1))) fun h3 => Post (some (.int (v9 &&& (nI 255)))) h3) ∧ (¬ v4 < v6 → zm_rc h a0 7 ∧ zm_cv K M_X7_fail [.ref a0, .int (nI 1)] h fun h4 => Post (some (.int (nI 0))) h4)))) : zm_Go E nc ns 0 [(0, .ref a0)] [] h := by
  refine zm_aload_n C rfl 0 rfl dX7_nextByte_0 ?_
  refine zm_getI C ff_X7_18 dX7_nextByte_1 w (fun v1 w => ?_)
  refine zm_if_lt (tgt := 30) C dX7_nextByte_4 (by decide) (fun z => ?_) (fun z => ?_)
  · replace w := w.1 z
    refine zm_aload_n C rfl 0 rfl dX7_nextByte_30 ?_
    refine zm_iconst (v := nI 1) C (by decide) dX7_nextByte_31 ?_
    obtain ⟨wr, w⟩ := w
    refine zm_Vv (As := [.int (nI 1)]) (rest := []) C M_X7_fail sv_X7_31 rfl dX7_nextByte_32 rfl (Nat.le_of_ble_eq_true rfl) (by decide) (by decide) (by show nc + 0 ≤ 0; omega) (by show ns + 0 ≤ 0; omega) wr w (fun h1 w => ?_)
    refine zm_iconst (v := nI 0) C (by decide) dX7_nextByte_35 ?_
    exact zm_ireturn C Rt (by show nc ≤ 0; omega) (by show ns ≤ 0; omega) rfl dX7_nextByte_36 w
  · replace w := w.2 z
    refine zm_aload_n C rfl 0 rfl dX7_nextByte_7 ?_
    refine zm_getI C ff_X7_18 dX7_nextByte_8 w (fun v2 w => ?_)
    refine zm_aload_n C rfl 0 rfl dX7_nextByte_11 ?_
    refine zm_getI C ff_X7_25 dX7_nextByte_12 w (fun v3 w => ?_)
    refine zm_icmp_ge (tgt := 30) C dX7_nextByte_15 (by decide) (fun z => ?_) (fun z => ?_)
    · replace w := w.1 z
      refine zm_aload_n C rfl 0 rfl dX7_nextByte_30 ?_
      refine zm_iconst (v := nI 1) C (by decide) dX7_nextByte_31 ?_
      obtain ⟨wr, w⟩ := w
      refine zm_Vv (As := [.int (nI 1)]) (rest := []) C M_X7_fail sv_X7_31 rfl dX7_nextByte_32 rfl (Nat.le_of_ble_eq_true rfl) (by decide) (by decide) (by show nc + 0 ≤ 0; omega) (by show ns + 0 ≤ 0; omega) wr w (fun h2 w => ?_)
      refine zm_iconst (v := nI 0) C (by decide) dX7_nextByte_35 ?_
      exact zm_ireturn C Rt (by show nc ≤ 0; omega) (by show ns ≤ 0; omega) rfl dX7_nextByte_36 w
    · replace w := w.2 z
      refine zm_aload_n C rfl 0 rfl dX7_nextByte_18 ?_
      refine zm_getI C ff_X7_18 dX7_nextByte_19 w (fun v4 w => ?_)
      refine zm_aload_n C rfl 0 rfl dX7_nextByte_22 ?_
      refine zm_getR C ff_X7_9 dX7_nextByte_23 w (fun v5 w => ?_)
      refine zm_lenA (t := 0) C (by decide) dX7_nextByte_26 w (fun v6 w => ?_)
      refine zm_icmp_lt (tgt := 37) C dX7_nextByte_27 (by decide) (fun z => ?_) (fun z => ?_)
      · replace w := w.1 z
        refine zm_aload_n C rfl 0 rfl dX7_nextByte_37 ?_
        refine zm_getR C ff_X7_9 dX7_nextByte_38 w (fun v7 w => ?_)
        refine zm_aload_n C rfl 0 rfl dX7_nextByte_41 ?_
        refine zm_getI C ff_X7_18 dX7_nextByte_42 w (fun v8 w => ?_)
        refine zm_ldB C dX7_nextByte_45 w (fun v9 w => ?_)
        refine zm_sipush (v := nI 255) C (by decide) dX7_nextByte_46 ?_
        refine zm_iand C dX7_nextByte_49 ?_
        refine zm_istore_n (L' := [(0, .ref a0), (1, .int (v9 &&& (nI 255)))]) C rfl (by decide) [1, 0] dX7_nextByte_50 rfl ?_
        refine zm_aload_n C rfl 0 rfl dX7_nextByte_51 ?_
        refine zm_dup C rfl dX7_nextByte_52 ?_
        refine zm_getI C ff_X7_18 dX7_nextByte_53 w (fun v10 w => ?_)
        refine zm_iconst (v := nI 1) C (by decide) dX7_nextByte_56 ?_
        refine zm_iadd C dX7_nextByte_57 ?_
        refine zm_put C ff_X7_18 ft_X7 fp_X7_7_1 rfl rfl dX7_nextByte_58 w (fun h3 w => ?_)
        refine zm_iload_n C rfl 1 rfl dX7_nextByte_61 ?_
        exact zm_ireturn C Rt (by show nc ≤ 0; omega) (by show ns ≤ 0; omega) rfl dX7_nextByte_62 w
      · replace w := w.2 z
        refine zm_aload_n C rfl 0 rfl dX7_nextByte_30 ?_
        refine zm_iconst (v := nI 1) C (by decide) dX7_nextByte_31 ?_
        obtain ⟨wr, w⟩ := w
        refine zm_Vv (As := [.int (nI 1)]) (rest := []) C M_X7_fail sv_X7_31 rfl dX7_nextByte_32 rfl (Nat.le_of_ble_eq_true rfl) (by decide) (by decide) (by show nc + 0 ≤ 0; omega) (by show ns + 0 ≤ 0; omega) wr w (fun h4 w => ?_)
        refine zm_iconst (v := nI 0) C (by decide) dX7_nextByte_35 ?_
        exact zm_ireturn C Rt (by show nc ≤ 0; omega) (by show ns ≤ 0; omega) rfl dX7_nextByte_36 w
set_option maxRecDepth 20000 in
theorem B_X7_varint_0 {E : zm_E} {K : zm_K} {Post : zm_Po} {nc ns : Nat} (C : zm_Cx E K cX7_varint RX7 3 42 0 0 7) (Rt : zm_Rt E Post 0 0 (some .long)) {a0 : Nat} {h : zm_H} (w : zm_Go E nc ns 4 [(0, .ref a0), (1, .long (lN 0)), (3, .int (nI 0))] [] h) : zm_Go E nc ns 0 [(0, .ref a0)] [] h := by
  refine zm_lconst (v := lN 0) C (by decide) dX7_varint_0 ?_
  refine zm_lstore_n (L' := [(0, .ref a0), (1, .long (lN 0))]) C rfl (by decide) [1, 0] dX7_varint_1 rfl ?_
  refine zm_iconst (v := nI 0) C (by decide) dX7_varint_2 ?_
  refine zm_istore_n (L' := [(0, .ref a0), (1, .long (lN 0)), (3, .int (nI 0))]) C rfl (by decide) [1, 2, 0] dX7_varint_3 rfl ?_
  exact w
set_option maxRecDepth 20000 in
theorem B_X7_varint_4 {E : zm_E} {K : zm_K} {Post : zm_Po} {nc ns : Nat} (C : zm_Cx E K cX7_varint RX7 3 42 0 0 7) (Rt : zm_Rt E Post 0 0 (some .long)) {a0 : Nat} {l1 : Int64} {i3 : Int32} {h : zm_H} (hnc : nc ≤ 0) (hns : ns ≤ 0) (w : ((nI 10) ≤ i3 → Post (some (.long l1)) h) ∧ (¬ (nI 10) ≤ i3 → zm_rc h a0 7 ∧ zm_ci K M_X7_failed [.ref a0] h fun v1 h1 => (¬ v1 = 0 → Post (some (.long l1)) h1) ∧ (v1 = 0 → zm_rc h1 a0 7 ∧ zm_ci K M_X7_nextByte [.ref a0] h1 fun v2 h2 => (¬ i3 = (nI 9) → (i3 ≤ 0 → zm_Go E nc ns 69 [(0, .ref a0), (1, .long (l1 ||| (((v2 &&& (nI 127)).toInt64) <<< (((nI 7) * i3).toInt64 &&& 63)))), (3, .int i3), (4, .int v2), (5, .int (nI 0))] [] h2) ∧ (¬ i3 ≤ 0 → (¬ v2 = 0 → zm_Go E nc ns 69 [(0, .ref a0), (1, .long (l1 ||| (((v2 &&& (nI 127)).toInt64) <<< (((nI 7) * i3).toInt64 &&& 63)))), (3, .int i3), (4, .int v2), (5, .int (nI 0))] [] h2) ∧ (v2 = 0 → zm_Go E nc ns 70 [(0, .ref a0), (1, .long (l1 ||| (((v2 &&& (nI 127)).toInt64) <<< (((nI 7) * i3).toInt64 &&& 63)))), (3, .int i3), (4, .int v2), (5, .int (nI 0))] [.int (nI 1)] h2))) ∧ (i3 = (nI 9) → (v2 ≤ (nI 1) → (i3 ≤ 0 → zm_Go E nc ns 69 [(0, .ref a0), (1, .long (l1 ||| (((v2 &&& (nI 127)).toInt64) <<< (((nI 7) * i3).toInt64 &&& 63)))), (3, .int i3), (4, .int v2), (5, .int (nI 0))] [] h2) ∧ (¬ i3 ≤ 0 → (¬ v2 = 0 → zm_Go E nc ns 69 [(0, .ref a0), (1, .long (l1 ||| (((v2 &&& (nI 127)).toInt64) <<< (((nI 7) * i3).toInt64 &&& 63)))), (3, .int i3), (4, .int v2), (5, .int (nI 0))] [] h2) ∧ (v2 = 0 → zm_Go E nc ns 70 [(0, .ref a0), (1, .long (l1 ||| (((v2 &&& (nI 127)).toInt64) <<< (((nI 7) * i3).toInt64 &&& 63)))), (3, .int i3), (4, .int v2), (5, .int (nI 0))] [.int (nI 1)] h2))) ∧ (¬ v2 ≤ (nI 1) → (i3 ≤ 0 → zm_Go E nc ns 69 [(0, .ref a0), (1, .long (l1 ||| (((v2 &&& (nI 127)).toInt64) <<< (((nI 7) * i3).toInt64 &&& 63)))), (3, .int i3), (4, .int v2), (5, .int (nI 1))] [] h2) ∧ (¬ i3 ≤ 0 → (¬ v2 = 0 → zm_Go E nc ns 69 [(0, .ref a0), (1, .long (l1 ||| (((v2 &&& (nI 127)).toInt64) <<< (((nI 7) * i3).toInt64 &&& 63)))), (3, .int i3), (4, .int v2), (5, .int (nI 1))] [] h2) ∧ (v2 = 0 → zm_Go E nc ns 70 [(0, .ref a0), (1, .long (l1 ||| (((v2 &&& (nI 127)).toInt64) <<< (((nI 7) * i3).toInt64 &&& 63)))), (3, .int i3), (4, .int v2), (5, .int (nI 1))] [.int (nI 1)] h2))))))) : zm_Go E nc ns 4 [(0, .ref a0), (1, .long l1), (3, .int i3)] [] h := by
  refine zm_iload_n C rfl 2 rfl dX7_varint_4 ?_
  refine zm_bipush (v := nI 10) C (by decide) dX7_varint_5 ?_
  refine zm_icmp_ge (tgt := 103) C dX7_varint_7 (by decide) (fun z => ?_) (fun z => ?_)
  · replace w := w.1 z
    refine zm_lload_n C rfl 1 rfl dX7_varint_103 ?_
    exact zm_lreturn C Rt (by show nc ≤ 0; omega) (by show ns ≤ 0; omega) dX7_varint_104 w
  · replace w := w.2 z
    refine zm_aload_n C rfl 0 rfl dX7_varint_10 ?_
    obtain ⟨wr, w⟩ := w
    refine zm_Vi (As := []) (rest := []) C M_X7_failed sv_X7_35 rfl dX7_varint_11 rfl (Nat.le_of_ble_eq_true rfl) (by decide) (by decide) (by show nc + 0 ≤ 0; omega) (by show ns + 0 ≤ 0; omega) wr w (fun v1 h1 w => ?_)
    refine zm_if_ne (tgt := 103) C dX7_varint_14 (by decide) (fun z => ?_) (fun z => ?_)
    · replace w := w.1 z
      refine zm_lload_n C rfl 1 rfl dX7_varint_103 ?_
      exact zm_lreturn C Rt (by show nc ≤ 0; omega) (by show ns ≤ 0; omega) dX7_varint_104 w
    · replace w := w.2 z
      refine zm_aload_n C rfl 0 rfl dX7_varint_17 ?_
      obtain ⟨wr, w⟩ := w
      refine zm_Vi (As := []) (rest := []) C M_X7_nextByte sv_X7_39 rfl dX7_varint_18 rfl (Nat.le_of_ble_eq_true rfl) (by decide) (by decide) (by show nc + 0 ≤ 0; omega) (by show ns + 0 ≤ 0; omega) wr w (fun v2 h2 w => ?_)
      refine zm_istore (L' := [(0, .ref a0), (1, .long l1), (3, .int i3), (4, .int v2)]) C (by decide) [1, 2, 3, 0] dX7_varint_21 rfl ?_
      refine zm_lload_n C rfl 1 rfl dX7_varint_23 ?_
      refine zm_iload C 3 rfl dX7_varint_24 ?_
      refine zm_bipush (v := nI 127) C (by decide) dX7_varint_26 ?_
      refine zm_iand C dX7_varint_28 ?_
      refine zm_i2l C dX7_varint_29 ?_
      refine zm_bipush (v := nI 7) C (by decide) dX7_varint_30 ?_
      refine zm_iload_n C rfl 2 rfl dX7_varint_32 ?_
      refine zm_imul C dX7_varint_33 ?_
      refine zm_lshl C dX7_varint_34 ?_
      refine zm_lor C dX7_varint_35 ?_
      refine zm_lstore_n (L' := [(0, .ref a0), (1, .long (l1 ||| (((v2 &&& (nI 127)).toInt64) <<< (((nI 7) * i3).toInt64 &&& 63)))), (3, .int i3), (4, .int v2)]) C rfl (by decide) [1, 0, 2, 3] dX7_varint_36 rfl ?_
      refine zm_iload_n C rfl 2 rfl dX7_varint_37 ?_
      refine zm_bipush (v := nI 9) C (by decide) dX7_varint_38 ?_
      refine zm_icmp_ne (tgt := 53) C dX7_varint_40 (by decide) (fun z => ?_) (fun z => ?_)
      · replace w := w.1 z
        refine zm_iconst (v := nI 0) C (by decide) dX7_varint_53 ?_
        refine zm_istore (L' := [(0, .ref a0), (1, .long (l1 ||| (((v2 &&& (nI 127)).toInt64) <<< (((nI 7) * i3).toInt64 &&& 63)))), (3, .int i3), (4, .int v2), (5, .int (nI 0))]) C (by decide) [1, 2, 3, 4, 0] dX7_varint_54 rfl ?_
        refine zm_iload_n C rfl 2 rfl dX7_varint_56 ?_
        refine zm_if_le (tgt := 69) C dX7_varint_57 (by decide) (fun z => ?_) (fun z => ?_)
        · replace w := w.1 z
          exact w
        · replace w := w.2 z
          refine zm_iload C 3 rfl dX7_varint_60 ?_
          refine zm_if_ne (tgt := 69) C dX7_varint_62 (by decide) (fun z => ?_) (fun z => ?_)
          · replace w := w.1 z
            exact w
          · replace w := w.2 z
            refine zm_iconst (v := nI 1) C (by decide) dX7_varint_65 ?_
            refine zm_goto (tgt := 70) C dX7_varint_66 (by decide) ?_
            exact w
      · replace w := w.2 z
        refine zm_iload C 3 rfl dX7_varint_43 ?_
        refine zm_iconst (v := nI 1) C (by decide) dX7_varint_45 ?_
        refine zm_icmp_le (tgt := 53) C dX7_varint_46 (by decide) (fun z => ?_) (fun z => ?_)
        · replace w := w.1 z
          refine zm_iconst (v := nI 0) C (by decide) dX7_varint_53 ?_
          refine zm_istore (L' := [(0, .ref a0), (1, .long (l1 ||| (((v2 &&& (nI 127)).toInt64) <<< (((nI 7) * i3).toInt64 &&& 63)))), (3, .int i3), (4, .int v2), (5, .int (nI 0))]) C (by decide) [1, 2, 3, 4, 0] dX7_varint_54 rfl ?_
          refine zm_iload_n C rfl 2 rfl dX7_varint_56 ?_
          refine zm_if_le (tgt := 69) C dX7_varint_57 (by decide) (fun z => ?_) (fun z => ?_)
          · replace w := w.1 z
            exact w
          · replace w := w.2 z
            refine zm_iload C 3 rfl dX7_varint_60 ?_
            refine zm_if_ne (tgt := 69) C dX7_varint_62 (by decide) (fun z => ?_) (fun z => ?_)
            · replace w := w.1 z
              exact w
            · replace w := w.2 z
              refine zm_iconst (v := nI 1) C (by decide) dX7_varint_65 ?_
              refine zm_goto (tgt := 70) C dX7_varint_66 (by decide) ?_
              exact w
        · replace w := w.2 z
          refine zm_iconst (v := nI 1) C (by decide) dX7_varint_49 ?_
          refine zm_goto (tgt := 54) C dX7_varint_50 (by decide) ?_
          refine zm_istore (L' := [(0, .ref a0), (1, .long (l1 ||| (((v2 &&& (nI 127)).toInt64) <<< (((nI 7) * i3).toInt64 &&& 63)))), (3, .int i3), (4, .int v2), (5, .int (nI 1))]) C (by decide) [1, 2, 3, 4, 0] dX7_varint_54 rfl ?_
          refine zm_iload_n C rfl 2 rfl dX7_varint_56 ?_
          refine zm_if_le (tgt := 69) C dX7_varint_57 (by decide) (fun z => ?_) (fun z => ?_)
          · replace w := w.1 z
            exact w
          · replace w := w.2 z
            refine zm_iload C 3 rfl dX7_varint_60 ?_
            refine zm_if_ne (tgt := 69) C dX7_varint_62 (by decide) (fun z => ?_) (fun z => ?_)
            · replace w := w.1 z
              exact w
            · replace w := w.2 z
              refine zm_iconst (v := nI 1) C (by decide) dX7_varint_65 ?_
              refine zm_goto (tgt := 70) C dX7_varint_66 (by decide) ?_
              exact w
set_option maxRecDepth 20000 in
theorem B_X7_varint_69 {E : zm_E} {K : zm_K} {Post : zm_Po} {nc ns : Nat} (C : zm_Cx E K cX7_varint RX7 3 42 0 0 7) (Rt : zm_Rt E Post 0 0 (some .long)) {a0 : Nat} {l1 : Int64} {i3 : Int32} {i4 : Int32} {i5 : Int32} {h : zm_H} (w : zm_Go E nc ns 70 [(0, .ref a0), (1, .long l1), (3, .int i3), (4, .int i4), (5, .int i5)] [.int (nI 0)] h) : zm_Go E nc ns 69 [(0, .ref a0), (1, .long l1), (3, .int i3), (4, .int i4), (5, .int i5)] [] h := by
  refine zm_iconst (v := nI 0) C (by decide) dX7_varint_69 ?_
  exact w
set_option maxRecDepth 20000 in
theorem B_X7_varint_70 {E : zm_E} {K : zm_K} {Post : zm_Po} {nc ns : Nat} (C : zm_Cx E K cX7_varint RX7 3 42 0 0 7) (Rt : zm_Rt E Post 0 0 (some .long)) {a0 : Nat} {l1 : Int64} {i3 : Int32} {i4 : Int32} {i5 : Int32} {s0 : Int32} {h : zm_H} (w : (¬ i5 = 0 → zm_Go E nc ns 82 [(0, .ref a0), (1, .long l1), (3, .int i3), (4, .int i4)] [] h) ∧ (i5 = 0 → (s0 = 0 → zm_Go E nc ns 87 [(0, .ref a0), (1, .long l1), (3, .int i3), (4, .int i4)] [] h) ∧ (¬ s0 = 0 → zm_Go E nc ns 82 [(0, .ref a0), (1, .long l1), (3, .int i3), (4, .int i4)] [] h))) : zm_Go E nc ns 70 [(0, .ref a0), (1, .long l1), (3, .int i3), (4, .int i4), (5, .int i5)] [.int s0] h := by
  refine zm_istore (L' := [(0, .ref a0), (1, .long l1), (3, .int i3), (4, .int i4), (5, .int i5), (6, .int s0)]) C (by decide) [1, 2, 3, 4, 5, 0] dX7_varint_70 rfl ?_
  refine zm_iload C 4 rfl dX7_varint_72 ?_
  refine zm_if_ne (tgt := 82) C dX7_varint_74 (by decide) (fun z => ?_) (fun z => ?_)
  · replace w := w.1 z
    exact zm_loc [0, 1, 2, 3] rfl w
  · replace w := w.2 z
    refine zm_iload C 5 rfl dX7_varint_77 ?_
    refine zm_if_eq (tgt := 87) C dX7_varint_79 (by decide) (fun z => ?_) (fun z => ?_)
    · replace w := w.1 z
      exact zm_loc [0, 1, 2, 3] rfl w
    · replace w := w.2 z
      exact zm_loc [0, 1, 2, 3] rfl w
set_option maxRecDepth 20000 in
theorem B_X7_varint_82 {E : zm_E} {K : zm_K} {Post : zm_Po} {nc ns : Nat} (C : zm_Cx E K cX7_varint RX7 3 42 0 0 7) (Rt : zm_Rt E Post 0 0 (some .long)) {a0 : Nat} {l1 : Int64} {i3 : Int32} {i4 : Int32} {h : zm_H} (hnc : nc ≤ 0) (hns : ns ≤ 0) (w : zm_rc h a0 7 ∧ zm_cv K M_X7_fail [.ref a0, .int (nI 2)] h fun h1 => zm_Go E nc ns 87 [(0, .ref a0), (1, .long l1), (3, .int i3), (4, .int i4)] [] h1) : zm_Go E nc ns 82 [(0, .ref a0), (1, .long l1), (3, .int i3), (4, .int i4)] [] h := by
  refine zm_aload_n C rfl 0 rfl dX7_varint_82 ?_
  refine zm_iconst (v := nI 2) C (by decide) dX7_varint_83 ?_
  obtain ⟨wr, w⟩ := w
  refine zm_Vv (As := [.int (nI 2)]) (rest := []) C M_X7_fail sv_X7_31 rfl dX7_varint_84 rfl (Nat.le_of_ble_eq_true rfl) (by decide) (by decide) (by show nc + 0 ≤ 0; omega) (by show ns + 0 ≤ 0; omega) wr w (fun h1 w => ?_)
  exact w
set_option maxRecDepth 20000 in
theorem B_X7_varint_87 {E : zm_E} {K : zm_K} {Post : zm_Po} {nc ns : Nat} (C : zm_Cx E K cX7_varint RX7 3 42 0 0 7) (Rt : zm_Rt E Post 0 0 (some .long)) {a0 : Nat} {l1 : Int64} {i3 : Int32} {i4 : Int32} {h : zm_H} (hnc : nc ≤ 0) (hns : ns ≤ 0) (w : ((nI 128) ≤ i4 → zm_Go E nc ns 4 [(0, .ref a0), (1, .long l1), (3, .int (i3 + (nI 1)))] [] h) ∧ (¬ (nI 128) ≤ i4 → Post (some (.long l1)) h)) : zm_Go E nc ns 87 [(0, .ref a0), (1, .long l1), (3, .int i3), (4, .int i4)] [] h := by
  refine zm_iload C 3 rfl dX7_varint_87 ?_
  refine zm_sipush (v := nI 128) C (by decide) dX7_varint_89 ?_
  refine zm_icmp_ge (tgt := 97) C dX7_varint_92 (by decide) (fun z => ?_) (fun z => ?_)
  · replace w := w.1 z
    refine zm_iinc (L' := [(0, .ref a0), (1, .long l1), (3, .int (i3 + (nI 1))), (4, .int i4)]) C (by decide) 2 [1, 2, 0, 3] dX7_varint_97 rfl rfl rfl ?_
    refine zm_goto (tgt := 4) C dX7_varint_100 (by decide) ?_
    exact zm_loc [0, 1, 2] rfl w
  · replace w := w.2 z
    refine zm_lload_n C rfl 1 rfl dX7_varint_95 ?_
    exact zm_lreturn C Rt (by show nc ≤ 0; omega) (by show ns ≤ 0; omega) dX7_varint_96 w
