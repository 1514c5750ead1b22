set_option maxRecDepth 20000 in
theorem B_X0_init_0 {E : zm_E} {K : zm_K} {Post : zm_Po} {nc ns : Nat} (C : zm_Cx E K cX0_init RX0 1 26 1 24000 2) (Rt : zm_Rt E Post 1 24000 none) (hin : zm_in E) {a0 : Nat} {i1 : Int32} {h : zm_H} (hnc : nc + 1 ≤ 1) (hns : ns + (if i1 < nI 0 then nI 0 else i1).toNatClampNeg ≤ 24000) (w : ¬ (if i1 < nI 0 then nI 0 else i1) < 0 ∧ (if i1 < nI 0 then nI 0 else i1).toNatClampNeg * componentBytes .byte ≤ 536870912 ∧ ns + (if i1 < nI 0 then nI 0 else i1).toNatClampNeg ≤ 24000 ∧ ∀ v1, h v1 = none → zm_pf (zm_set h v1 (.inl (K.2.2 0, (if i1 < nI 0 then nI 0 else i1).toNatClampNeg, .inl (fun _ => 0)))) a0 0 0 (.ref v1) fun h1 => Post none h1) : zm_Go E nc ns 0 [(0, .ref a0), (1, .int i1)] [] h := by
  refine zm_aload_n C rfl 0 rfl dX0_init_0 ?_
  refine zm_objInit C (zm_inG (by decide +kernel) rfl) (zm_inG (by decide +kernel) rfl) zi_objInit (by decide) (by decide) (Nat.le_of_ble_eq_true rfl) dX0_init_1 ?_
  refine zm_aload_n C rfl 0 rfl dX0_init_4 ?_
  refine zm_iload_n C rfl 1 rfl dX0_init_5 ?_
  refine zm_iconst (v := nI 0) C (by decide) dX0_init_6 ?_
  refine zm_mmax C (zm_inG (by decide +kernel) rfl) (zm_inG (by decide +kernel) rfl) (zm_inG (by decide +kernel) rfl) zi_max (by decide) (by decide) (Nat.le_of_ble_eq_true rfl) (by show nc ≤ 1; omega) (by show ns ≤ 24000; omega) dX0_init_7 ?_
  obtain ⟨g1, g2, g3, w⟩ := w
  refine zm_newa (ty := .byte) (N := (if i1 < nI 0 then nI 0 else i1).toNatClampNeg) (a0 := ((if i1 < nI 0 then nI 0 else i1).toNatClampNeg, .inl (fun _ => 0))) C 0 rfl (fun _ => rfl) (fun _ _ z => z) (zm_inG (by decide +kernel) rfl) (fun _ => rfl) dX0_init_10 g1 rfl g2 (by show nc + 1 ≤ 1; omega) g3 (fun v1 hq => ?_)
  replace w := w v1 hq
  refine zm_putQ C hin ff_X0_15 ft_X0 fp_X0_0_0 rfl rfl dX0_init_12 w (fun h1 w => ?_)
  exact zm_return C Rt (by show nc + 1 ≤ 1; omega) (by show ns + (if i1 < nI 0 then nI 0 else i1).toNatClampNeg ≤ 24000; omega) dX0_init_15 w
set_option maxRecDepth 20000 in
theorem B_X0_put_0 {E : zm_E} {K : zm_K} {Post : zm_Po} {nc ns : Nat} (C : zm_Cx E K cX0_put RX0 1 0 0 0 2) (Rt : zm_Rt E Post 0 0 none) {a0 : Nat} {i1 : Int32} {h : zm_H} (hnc : nc ≤ 0) (hns : ns ≤ 0) (w : zm_gI h a0 0 1 fun v1 => zm_gR h a0 0 0 fun v2 => zm_al K 0 h v2 fun v3 => (v3 ≤ v1 → Post none h) ∧ (¬ v3 ≤ v1 → zm_gR h a0 0 0 fun v4 => zm_gI h a0 0 1 fun v5 => zm_sB K h v4 v5 i1.toInt8.toInt32 fun h1 => zm_gI h1 a0 0 1 fun v6 => zm_pf h1 a0 0 1 (.int (v6 + (nI 1))) fun h2 => Post none h2)) : zm_Go E nc ns 0 [(0, .ref a0), (1, .int i1)] [] h := by
  refine zm_aload_n C rfl 0 rfl dX0_put_0 ?_
  refine zm_getI C ff_X0_21 dX0_put_1 w (fun v1 w => ?_)
  refine zm_aload_n C rfl 0 rfl dX0_put_4 ?_
  refine zm_getR C ff_X0_15 dX0_put_5 w (fun v2 w => ?_)
  refine zm_lenA (t := 0) C (by decide) dX0_put_8 w (fun v3 w => ?_)
  refine zm_icmp_ge (tgt := 33) C dX0_put_9 (by decide) (fun z => ?_) (fun z => ?_)
  · replace w := w.1 z
    exact zm_return C Rt (by show nc ≤ 0; omega) (by show ns ≤ 0; omega) dX0_put_33 w
  · replace w := w.2 z
    refine zm_aload_n C rfl 0 rfl dX0_put_12 ?_
    refine zm_getR C ff_X0_15 dX0_put_13 w (fun v4 w => ?_)
    refine zm_aload_n C rfl 0 rfl dX0_put_16 ?_
    refine zm_getI C ff_X0_21 dX0_put_17 w (fun v5 w => ?_)
    refine zm_iload_n C rfl 1 rfl dX0_put_20 ?_
    refine zm_i2b C dX0_put_21 ?_
    refine zm_stB C dX0_put_22 w (fun h1 w => ?_)
    refine zm_aload_n C rfl 0 rfl dX0_put_23 ?_
    refine zm_dup C rfl dX0_put_24 ?_
    refine zm_getI C ff_X0_21 dX0_put_25 w (fun v6 w => ?_)
    refine zm_iconst (v := nI 1) C (by decide) dX0_put_28 ?_
    refine zm_iadd C dX0_put_29 ?_
    refine zm_put C ff_X0_21 ft_X0 fp_X0_0_1 rfl rfl dX0_put_30 w (fun h2 w => ?_)
    exact zm_return C Rt (by show nc ≤ 0; omega) (by show ns ≤ 0; omega) dX0_put_33 w
set_option maxRecDepth 20000 in
theorem B_X0_putInt_0 {E : zm_E} {K : zm_K} {Post : zm_Po} {nc ns : Nat} (C : zm_Cx E K cX0_putInt RX0 2 21 0 0 2) (Rt : zm_Rt E Post 0 0 none) {a0 : Nat} {i1 : Int32} {h : zm_H} (hnc : nc ≤ 0) (hns : ns ≤ 0) (w : zm_rc h a0 0 ∧ zm_cv K M_X0_put [.ref a0, .int ((i1.toUInt32 >>> ((nI 24).toUInt32 &&& Int32.toUInt32 31)).toInt32)] h fun h1 => zm_rc h1 a0 0 ∧ zm_cv K M_X0_put [.ref a0, .int ((i1.toUInt32 >>> ((nI 16).toUInt32 &&& Int32.toUInt32 31)).toInt32)] h1 fun h2 => zm_rc h2 a0 0 ∧ zm_cv K M_X0_put [.ref a0, .int ((i1.toUInt32 >>> ((nI 8).toUInt32 &&& Int32.toUInt32 31)).toInt32)] h2 fun h3 => zm_rc h3 a0 0 ∧ zm_cv K M_X0_put [.ref a0, .int i1] h3 fun h4 => Post none h4) : zm_Go E nc ns 0 [(0, .ref a0), (1, .int i1)] [] h := by
  refine zm_aload_n C rfl 0 rfl dX0_putInt_0 ?_
  refine zm_iload_n C rfl 1 rfl dX0_putInt_1 ?_
  refine zm_bipush (v := nI 24) C (by decide) dX0_putInt_2 ?_
  refine zm_iushr C dX0_putInt_4 ?_
  obtain ⟨wr, w⟩ := w
  refine zm_Vv (As := [.int ((i1.toUInt32 >>> ((nI 24).toUInt32 &&& Int32.toUInt32 31)).toInt32)]) (rest := []) C M_X0_put sv_X0_25 rfl dX0_putInt_5 rfl (Nat.le_of_ble_eq_true rfl) (by decide) (by decide) (by show nc + 0 ≤ 0; omega) (by show ns + 0 ≤ 0; omega) wr w (fun h1 w => ?_)
  refine zm_aload_n C rfl 0 rfl dX0_putInt_8 ?_
  refine zm_iload_n C rfl 1 rfl dX0_putInt_9 ?_
  refine zm_bipush (v := nI 16) C (by decide) dX0_putInt_10 ?_
  refine zm_iushr C dX0_putInt_12 ?_
  obtain ⟨wr, w⟩ := w
  refine zm_Vv (As := [.int ((i1.toUInt32 >>> ((nI 16).toUInt32 &&& Int32.toUInt32 31)).toInt32)]) (rest := []) C M_X0_put sv_X0_25 rfl dX0_putInt_13 rfl (Nat.le_of_ble_eq_true rfl) (by decide) (by decide) (by show nc + 0 ≤ 0; omega) (by show ns + 0 ≤ 0; omega) wr w (fun h2 w => ?_)
  refine zm_aload_n C rfl 0 rfl dX0_putInt_16 ?_
  refine zm_iload_n C rfl 1 rfl dX0_putInt_17 ?_
  refine zm_bipush (v := nI 8) C (by decide) dX0_putInt_18 ?_
  refine zm_iushr C dX0_putInt_20 ?_
  obtain ⟨wr, w⟩ := w
  refine zm_Vv (As := [.int ((i1.toUInt32 >>> ((nI 8).toUInt32 &&& Int32.toUInt32 31)).toInt32)]) (rest := []) C M_X0_put sv_X0_25 rfl dX0_putInt_21 rfl (Nat.le_of_ble_eq_true rfl) (by decide) (by decide) (by show nc + 0 ≤ 0; omega) (by show ns + 0 ≤ 0; omega) wr w (fun h3 w => ?_)
  refine zm_aload_n C rfl 0 rfl dX0_putInt_24 ?_
  refine zm_iload_n C rfl 1 rfl dX0_putInt_25 ?_
  obtain ⟨wr, w⟩ := w
  refine zm_Vv (As := [.int i1]) (rest := []) C M_X0_put sv_X0_25 rfl dX0_putInt_26 rfl (Nat.le_of_ble_eq_true rfl) (by decide) (by decide) (by show nc + 0 ≤ 0; omega) (by show ns + 0 ≤ 0; omega) wr w (fun h4 w => ?_)
  exact zm_return C Rt (by show nc ≤ 0; omega) (by show ns ≤ 0; omega) dX0_putInt_29 w
set_option maxRecDepth 20000 in
theorem B_X0_putAll_0 {E : zm_E} {K : zm_K} {Post : zm_Po} {nc ns : Nat} (C : zm_Cx E K cX0_putAll RX0 1 26 0 0 4) (Rt : zm_Rt E Post 0 0 none) {a0 : Nat} {a1 : Nat} {i2 : Int32} {i3 : Int32} {h : zm_H} (hnc : nc ≤ 0) (hns : ns ≤ 0) (w : (i2 < 0 → Post none h) ∧ (¬ i2 < 0 → (i3 < 0 → Post none h) ∧ (¬ i3 < 0 → zm_al K 0 h a1 fun v1 => (i3 ≤ (v1 - i2) → zm_gR h a0 0 0 fun v2 => zm_al K 0 h v2 fun v3 => zm_gI h a0 0 1 fun v4 => (i3 ≤ (v3 - v4) → zm_gR h a0 0 0 fun v5 => zm_gI h a0 0 1 fun v6 => zm_cp K h a1 i2 v5 v6 i3 fun h1 => zm_gI h1 a0 0 1 fun v7 => zm_pf h1 a0 0 1 (.int (v7 + i3)) fun h2 => Post none h2) ∧ (¬ i3 ≤ (v3 - v4) → Post none h)) ∧ (¬ i3 ≤ (v1 - i2) → Post none h)))) : zm_Go E nc ns 0 [(0, .ref a0), (1, .ref a1), (2, .int i2), (3, .int i3)] [] h := by
  refine zm_iload_n C rfl 2 rfl dX0_putAll_0 ?_
  refine zm_if_lt (tgt := 16) C dX0_putAll_1 (by decide) (fun z => ?_) (fun z => ?_)
  · replace w := w.1 z
    exact zm_return C Rt (by show nc ≤ 0; omega) (by show ns ≤ 0; omega) dX0_putAll_16 w
  · replace w := w.2 z
    refine zm_iload_n C rfl 3 rfl dX0_putAll_4 ?_
    refine zm_if_lt (tgt := 16) C dX0_putAll_5 (by decide) (fun z => ?_) (fun z => ?_)
    · replace w := w.1 z
      exact zm_return C Rt (by show nc ≤ 0; omega) (by show ns ≤ 0; omega) dX0_putAll_16 w
    · replace w := w.2 z
      refine zm_iload_n C rfl 3 rfl dX0_putAll_8 ?_
      refine zm_aload_n C rfl 1 rfl dX0_putAll_9 ?_
      refine zm_lenA (t := 0) C (by decide) dX0_putAll_10 w (fun v1 w => ?_)
      refine zm_iload_n C rfl 2 rfl dX0_putAll_11 ?_
      refine zm_isub C dX0_putAll_12 ?_
      refine zm_icmp_le (tgt := 17) C dX0_putAll_13 (by decide) (fun z => ?_) (fun z => ?_)
      · replace w := w.1 z
        refine zm_iload_n C rfl 3 rfl dX0_putAll_17 ?_
        refine zm_aload_n C rfl 0 rfl dX0_putAll_18 ?_
        refine zm_getR C ff_X0_15 dX0_putAll_19 w (fun v2 w => ?_)
        refine zm_lenA (t := 0) C (by decide) dX0_putAll_22 w (fun v3 w => ?_)
        refine zm_aload_n C rfl 0 rfl dX0_putAll_23 ?_
        refine zm_getI C ff_X0_21 dX0_putAll_24 w (fun v4 w => ?_)
        refine zm_isub C dX0_putAll_27 ?_
        refine zm_icmp_le (tgt := 32) C dX0_putAll_28 (by decide) (fun z => ?_) (fun z => ?_)
        · replace w := w.1 z
          refine zm_aload_n C rfl 1 rfl dX0_putAll_32 ?_
          refine zm_iload_n C rfl 2 rfl dX0_putAll_33 ?_
          refine zm_aload_n C rfl 0 rfl dX0_putAll_34 ?_
          refine zm_getR C ff_X0_15 dX0_putAll_35 w (fun v5 w => ?_)
          refine zm_aload_n C rfl 0 rfl dX0_putAll_38 ?_
          refine zm_getI C ff_X0_21 dX0_putAll_39 w (fun v6 w => ?_)
          refine zm_iload_n C rfl 3 rfl dX0_putAll_42 ?_
          refine zm_copy C (zm_inG (by decide +kernel) rfl) (zm_inG (by decide +kernel) rfl) (zm_inG (by decide +kernel) rfl) (zm_inG (by decide +kernel) rfl) (by decide) (by decide) (Nat.le_of_ble_eq_true rfl) dX0_putAll_43 w (fun h1 w => ?_)
          refine zm_aload_n C rfl 0 rfl dX0_putAll_46 ?_
          refine zm_dup C rfl dX0_putAll_47 ?_
          refine zm_getI C ff_X0_21 dX0_putAll_48 w (fun v7 w => ?_)
          refine zm_iload_n C rfl 3 rfl dX0_putAll_51 ?_
          refine zm_iadd C dX0_putAll_52 ?_
          refine zm_put C ff_X0_21 ft_X0 fp_X0_0_1 rfl rfl dX0_putAll_53 w (fun h2 w => ?_)
          exact zm_return C Rt (by show nc ≤ 0; omega) (by show ns ≤ 0; omega) dX0_putAll_56 w
        · replace w := w.2 z
          exact zm_return C Rt (by show nc ≤ 0; omega) (by show ns ≤ 0; omega) dX0_putAll_31 w
      · replace w := w.2 z
        exact zm_return C Rt (by show nc ≤ 0; omega) (by show ns ≤ 0; omega) dX0_putAll_16 w
set_option maxRecDepth 20000 in
theorem B_X0_putVarint_0 {E : zm_E} {K : zm_K} {Post : zm_Po} {nc ns : Nat} (C : zm_Cx E K cX0_putVarint RX0 2 21 0 0 6) (Rt : zm_Rt E Post 0 0 none) {a0 : Nat} {l1 : Int64} {h : zm_H} (w : zm_Go E nc ns 5 [(0, .ref a0), (3, .long l1), (5, .int (nI 1))] [] h) : zm_Go E nc ns 0 [(0, .ref a0), (1, .long l1)] [] h := by
  refine zm_lload_n C rfl 1 rfl dX0_putVarint_0 ?_
  refine zm_lstore_n (L' := [(0, .ref a0), (1, .long l1), (3, .long l1)]) C rfl (by decide) [1, 2, 0] dX0_putVarint_1 rfl ?_
  refine zm_iconst (v := nI 1) C (by decide) dX0_putVarint_2 ?_
  refine zm_istore (L' := [(0, .ref a0), (1, .long l1), (3, .long l1), (5, .int (nI 1))]) C (by decide) [1, 2, 3, 0] dX0_putVarint_3 rfl ?_
  exact zm_loc [0, 2, 3] rfl w
set_option maxRecDepth 20000 in
theorem B_X0_putVarint_5 {E : zm_E} {K : zm_K} {Post : zm_Po} {nc ns : Nat} (C : zm_Cx E K cX0_putVarint RX0 2 21 0 0 6) (Rt : zm_Rt E Post 0 0 none) {a0 : Nat} {l3 : Int64} {i5 : Int32} {h : zm_H} (hnc : nc ≤ 0) (hns : ns ≤ 0) (w : ((nI 10) ≤ i5 → zm_rc h a0 0 ∧ zm_cv K M_X0_put [.ref a0, .int l3.toInt32] h fun h1 => Post none h1) ∧ (¬ (nI 10) ≤ i5 → ((lg_cmp ((l3.toUInt64 >>> ((nI 7).toInt64.toUInt64 &&& Int64.toUInt64 63)).toInt64) (lN 0)) = 0 → zm_rc h a0 0 ∧ zm_cv K M_X0_put [.ref a0, .int l3.toInt32] h fun h2 => Post none h2) ∧ (¬ (lg_cmp ((l3.toUInt64 >>> ((nI 7).toInt64.toUInt64 &&& Int64.toUInt64 63)).toInt64) (lN 0)) = 0 → zm_rc h a0 0 ∧ zm_cv K M_X0_put [.ref a0, .int (((l3 &&& (lN 127)).toInt32) ||| (nI 128))] h fun h3 => zm_Go E nc ns 5 [(0, .ref a0), (3, .long ((l3.toUInt64 >>> ((nI 7).toInt64.toUInt64 &&& Int64.toUInt64 63)).toInt64)), (5, .int (i5 + (nI 1)))] [] h3))) : zm_Go E nc ns 5 [(0, .ref a0), (3, .long l3), (5, .int i5)] [] h := by
  refine zm_iload C 2 rfl dX0_putVarint_5 ?_
  refine zm_bipush (v := nI 10) C (by decide) dX0_putVarint_7 ?_
  refine zm_icmp_ge (tgt := 46) C dX0_putVarint_9 (by decide) (fun z => ?_) (fun z => ?_)
  · replace w := w.1 z
    refine zm_aload_n C rfl 0 rfl dX0_putVarint_46 ?_
    refine zm_lload_n C rfl 1 rfl dX0_putVarint_47 ?_
    refine zm_l2i C dX0_putVarint_48 ?_
    obtain ⟨wr, w⟩ := w
    refine zm_Vv (As := [.int l3.toInt32]) (rest := []) C M_X0_put sv_X0_25 rfl dX0_putVarint_49 rfl (Nat.le_of_ble_eq_true rfl) (by decide) (by decide) (by show nc + 0 ≤ 0; omega) (by show ns + 0 ≤ 0; omega) wr w (fun h1 w => ?_)
    exact zm_return C Rt (by show nc ≤ 0; omega) (by show ns ≤ 0; omega) dX0_putVarint_52 w
  · replace w := w.2 z
    refine zm_lload_n C rfl 1 rfl dX0_putVarint_12 ?_
    refine zm_bipush (v := nI 7) C (by decide) dX0_putVarint_13 ?_
    refine zm_lushr C dX0_putVarint_15 ?_
    refine zm_lconst (v := lN 0) C (by decide) dX0_putVarint_16 ?_
    refine zm_lcmp C dX0_putVarint_17 ?_
    refine zm_if_eq (tgt := 46) C dX0_putVarint_18 (by decide) (fun z => ?_) (fun z => ?_)
    · replace w := w.1 z
      refine zm_aload_n C rfl 0 rfl dX0_putVarint_46 ?_
      refine zm_lload_n C rfl 1 rfl dX0_putVarint_47 ?_
      refine zm_l2i C dX0_putVarint_48 ?_
      obtain ⟨wr, w⟩ := w
      refine zm_Vv (As := [.int l3.toInt32]) (rest := []) C M_X0_put sv_X0_25 rfl dX0_putVarint_49 rfl (Nat.le_of_ble_eq_true rfl) (by decide) (by decide) (by show nc + 0 ≤ 0; omega) (by show ns + 0 ≤ 0; omega) wr w (fun h2 w => ?_)
      exact zm_return C Rt (by show nc ≤ 0; omega) (by show ns ≤ 0; omega) dX0_putVarint_52 w
    · replace w := w.2 z
      refine zm_aload_n C rfl 0 rfl dX0_putVarint_21 ?_
      refine zm_lload_n C rfl 1 rfl dX0_putVarint_22 ?_
      refine zm_ldc2 (v := lN 127) C (zm_inG (by decide +kernel) rfl) dX0_putVarint_23 ?_
      refine zm_land C dX0_putVarint_26 ?_
      refine zm_l2i C dX0_putVarint_27 ?_
      refine zm_sipush (v := nI 128) C (by decide) dX0_putVarint_28 ?_
      refine zm_ior C dX0_putVarint_31 ?_
      obtain ⟨wr, w⟩ := w
      refine zm_Vv (As := [.int (((l3 &&& (lN 127)).toInt32) ||| (nI 128))]) (rest := []) C M_X0_put sv_X0_25 rfl dX0_putVarint_32 rfl (Nat.le_of_ble_eq_true rfl) (by decide) (by decide) (by show nc + 0 ≤ 0; omega) (by show ns + 0 ≤ 0; omega) wr w (fun h3 w => ?_)
      refine zm_lload_n C rfl 1 rfl dX0_putVarint_35 ?_
      refine zm_bipush (v := nI 7) C (by decide) dX0_putVarint_36 ?_
      refine zm_lushr C dX0_putVarint_38 ?_
      refine zm_lstore_n (L' := [(0, .ref a0), (3, .long ((l3.toUInt64 >>> ((nI 7).toInt64.toUInt64 &&& Int64.toUInt64 63)).toInt64)), (5, .int i5)]) C rfl (by decide) [1, 0, 2] dX0_putVarint_39 rfl ?_
      refine zm_iinc (L' := [(0, .ref a0), (3, .long ((l3.toUInt64 >>> ((nI 7).toInt64.toUInt64 &&& Int64.toUInt64 63)).toInt64)), (5, .int (i5 + (nI 1)))]) C (by decide) 2 [1, 2, 0] dX0_putVarint_40 rfl rfl rfl ?_
      refine zm_goto (tgt := 5) C dX0_putVarint_43 (by decide) ?_
      exact w
set_option maxRecDepth 20000 in
theorem B_X0_putZeros_0 {E : zm_E} {K : zm_K} {Post : zm_Po} {nc ns : Nat} (C : zm_Cx E K cX0_putZeros RX0 1 0 0 0 3) (Rt : zm_Rt E Post 0 0 none) {a0 : Nat} {i1 : Int32} {h : zm_H} (w : zm_Go E nc ns 2 [(0, .ref a0), (1, .int i1), (2, .int (nI 0))] [] h) : zm_Go E nc ns 0 [(0, .ref a0), (1, .int i1)] [] h := by
  refine zm_iconst (v := nI 0) C (by decide) dX0_putZeros_0 ?_
  refine zm_istore_n (L' := [(0, .ref a0), (1, .int i1), (2, .int (nI 0))]) C rfl (by decide) [1, 2, 0] dX0_putZeros_1 rfl ?_
  exact w
set_option maxRecDepth 20000 in
theorem B_X0_putZeros_2 {E : zm_E} {K : zm_K} {Post : zm_Po} {nc ns : Nat} (C : zm_Cx E K cX0_putZeros RX0 1 0 0 0 3) (Rt : zm_Rt E Post 0 0 none) {a0 : Nat} {i1 : Int32} {i2 : Int32} {h : zm_H} (hnc : nc ≤ 0) (hns : ns ≤ 0) (w : (i1 ≤ i2 → Post none h) ∧ (¬ i1 ≤ i2 → zm_gI h a0 0 1 fun v1 => zm_gR h a0 0 0 fun v2 => zm_al K 0 h v2 fun v3 => (v3 ≤ v1 → Post none h) ∧ (¬ v3 ≤ v1 → zm_gR h a0 0 0 fun v4 => zm_gI h a0 0 1 fun v5 => zm_sB K h v4 v5 (nI 0) fun h1 => zm_gI h1 a0 0 1 fun v6 => zm_pf h1 a0 0 1 (.int (v6 + (nI 1))) fun h2 => zm_Go E nc ns 2 [(0, .ref a0), (1, .int i1), (2, .int (i2 + (nI 1)))] [] h2))) : zm_Go E nc ns 2 [(0, .ref a0), (1, .int i1), (2, .int i2)] [] h := by
  refine zm_iload_n C rfl 2 rfl dX0_putZeros_2 ?_
  refine zm_iload_n C rfl 1 rfl dX0_putZeros_3 ?_
  refine zm_icmp_ge (tgt := 45) C dX0_putZeros_4 (by decide) (fun z => ?_) (fun z => ?_)
  · replace w := w.1 z
    exact zm_return C Rt (by show nc ≤ 0; omega) (by show ns ≤ 0; omega) dX0_putZeros_45 w
  · replace w := w.2 z
    refine zm_aload_n C rfl 0 rfl dX0_putZeros_7 ?_
    refine zm_getI C ff_X0_21 dX0_putZeros_8 w (fun v1 w => ?_)
    refine zm_aload_n C rfl 0 rfl dX0_putZeros_11 ?_
    refine zm_getR C ff_X0_15 dX0_putZeros_12 w (fun v2 w => ?_)
    refine zm_lenA (t := 0) C (by decide) dX0_putZeros_15 w (fun v3 w => ?_)
    refine zm_icmp_ge (tgt := 45) C dX0_putZeros_16 (by decide) (fun z => ?_) (fun z => ?_)
    · replace w := w.1 z
      exact zm_return C Rt (by show nc ≤ 0; omega) (by show ns ≤ 0; omega) dX0_putZeros_45 w
    · replace w := w.2 z
      refine zm_aload_n C rfl 0 rfl dX0_putZeros_19 ?_
      refine zm_getR C ff_X0_15 dX0_putZeros_20 w (fun v4 w => ?_)
      refine zm_aload_n C rfl 0 rfl dX0_putZeros_23 ?_
      refine zm_getI C ff_X0_21 dX0_putZeros_24 w (fun v5 w => ?_)
      refine zm_iconst (v := nI 0) C (by decide) dX0_putZeros_27 ?_
      refine zm_stB C dX0_putZeros_28 w (fun h1 w => ?_)
      refine zm_aload_n C rfl 0 rfl dX0_putZeros_29 ?_
      refine zm_dup C rfl dX0_putZeros_30 ?_
      refine zm_getI C ff_X0_21 dX0_putZeros_31 w (fun v6 w => ?_)
      refine zm_iconst (v := nI 1) C (by decide) dX0_putZeros_34 ?_
      refine zm_iadd C dX0_putZeros_35 ?_
      refine zm_put C ff_X0_21 ft_X0 fp_X0_0_1 rfl rfl dX0_putZeros_36 w (fun h2 w => ?_)
      refine zm_iinc (L' := [(0, .ref a0), (1, .int i1), (2, .int (i2 + (nI 1)))]) C (by decide) 2 [1, 2, 0] dX0_putZeros_39 rfl rfl rfl ?_
      refine zm_goto (tgt := 2) C dX0_putZeros_42 (by decide) ?_
      exact w
set_option maxRecDepth 20000 in
theorem B_X0_setBits_0 {E : zm_E} {K : zm_K} {Post : zm_Po} {nc ns : Nat} (C : zm_Cx E K cX0_setBits RX0 1 0 0 0 11) (Rt : zm_Rt E Post 0 0 none) {a0 : Nat} {i1 : Int32} {i2 : Int32} {i3 : Int32} {l4 : Int64} {h : zm_H} (w : zm_Go E nc ns 5 [(0, .ref a0), (1, .int i1), (2, .int i2), (3, .int i3), (4, .long l4), (6, .int (i2 >>> ((nI 3) &&& 31)))] [] h) : zm_Go E nc ns 0 [(0, .ref a0), (1, .int i1), (2, .int i2), (3, .int i3), (4, .long l4)] [] h := by
  refine zm_iload_n C rfl 2 rfl dX0_setBits_0 ?_
  refine zm_iconst (v := nI 3) C (by decide) dX0_setBits_1 ?_
  refine zm_ishr C dX0_setBits_2 ?_
  refine zm_istore (L' := [(0, .ref a0), (1, .int i1), (2, .int i2), (3, .int i3), (4, .long l4), (6, .int (i2 >>> ((nI 3) &&& 31)))]) C (by decide) [1, 2, 3, 4, 5, 0] dX0_setBits_3 rfl ?_
  exact w
set_option maxRecDepth 20000 in
theorem B_X0_setBits_5 {E : zm_E} {K : zm_K} {Post : zm_Po} {nc ns : Nat} (C : zm_Cx E K cX0_setBits RX0 1 0 0 0 11) (Rt : zm_Rt E Post 0 0 none) {a0 : Nat} {i1 : Int32} {i2 : Int32} {i3 : Int32} {l4 : Int64} {i6 : Int32} {h : zm_H} (hnc : nc ≤ 0) (hns : ns ≤ 0) (w : ((i2 + i3) ≤ ((nI 8) * i6) → Post none h) ∧ (¬ (i2 + i3) ≤ ((nI 8) * i6) → ((i1 + i6) < 0 → Post none h) ∧ (¬ (i1 + i6) < 0 → zm_gI h a0 0 1 fun v1 => ((i1 + i6) < v1 → (0 ≤ (((nI 8) * i6) - i2) → zm_gR h a0 0 0 fun v2 => zm_gR h a0 0 0 fun v3 => zm_ld K 0 h v3 (i1 + i6) fun v4 => zm_sB K h v2 (i1 + i6) (((v4.toInt64 ||| ((l4.toUInt64 >>> ((((nI 8) * i6) - i2).toInt64.toUInt64 &&& Int64.toUInt64 63)).toInt64)).toInt32).toInt8.toInt32) fun h1 => zm_Go E nc ns 5 [(0, .ref a0), (1, .int i1), (2, .int i2), (3, .int i3), (4, .long l4), (6, .int (i6 + (nI 1)))] [] h1) ∧ (¬ 0 ≤ (((nI 8) * i6) - i2) → zm_gR h a0 0 0 fun v5 => zm_gR h a0 0 0 fun v6 => zm_ld K 0 h v6 (i1 + i6) fun v7 => zm_sB K h v5 (i1 + i6) (((v7.toInt64 ||| (l4 <<< ((-(((nI 8) * i6) - i2)).toInt64 &&& 63))).toInt32).toInt8.toInt32) fun h2 => zm_Go E nc ns 5 [(0, .ref a0), (1, .int i1), (2, .int i2), (3, .int i3), (4, .long l4), (6, .int (i6 + (nI 1)))] [] h2)) ∧ (¬ (i1 + i6) < v1 → Post none h)))) : zm_Go E nc ns 5 [(0, .ref a0), (1, .int i1), (2, .int i2), (3, .int i3), (4, .long l4), (6, .int i6)] [] h := by
  refine zm_bipush (v := nI 8) C (by decide) dX0_setBits_5 ?_
  refine zm_iload C 5 rfl dX0_setBits_7 ?_
  refine zm_imul C dX0_setBits_9 ?_
  refine zm_iload_n C rfl 2 rfl dX0_setBits_10 ?_
  refine zm_iload_n C rfl 3 rfl dX0_setBits_11 ?_
  refine zm_iadd C dX0_setBits_12 ?_
  refine zm_icmp_ge (tgt := 93) C dX0_setBits_13 (by decide) (fun z => ?_) (fun z => ?_)
  · replace w := w.1 z
    exact zm_return C Rt (by show nc ≤ 0; omega) (by show ns ≤ 0; omega) dX0_setBits_93 w
  · replace w := w.2 z
    refine zm_iload_n C rfl 1 rfl dX0_setBits_16 ?_
    refine zm_iload C 5 rfl dX0_setBits_17 ?_
    refine zm_iadd C dX0_setBits_19 ?_
    refine zm_istore (L' := [(0, .ref a0), (1, .int i1), (2, .int i2), (3, .int i3), (4, .long l4), (6, .int i6), (7, .int (i1 + i6))]) C (by decide) [1, 2, 3, 4, 5, 6, 0] dX0_setBits_20 rfl ?_
    refine zm_iload C 6 rfl dX0_setBits_22 ?_
    refine zm_if_lt (tgt := 36) C dX0_setBits_24 (by decide) (fun z => ?_) (fun z => ?_)
    · replace w := w.1 z
      exact zm_return C Rt (by show nc ≤ 0; omega) (by show ns ≤ 0; omega) dX0_setBits_36 w
    · replace w := w.2 z
      refine zm_iload C 6 rfl dX0_setBits_27 ?_
      refine zm_aload_n C rfl 0 rfl dX0_setBits_29 ?_
      refine zm_getI C ff_X0_21 dX0_setBits_30 w (fun v1 w => ?_)
      refine zm_icmp_lt (tgt := 37) C dX0_setBits_33 (by decide) (fun z => ?_) (fun z => ?_)
      · replace w := w.1 z
        refine zm_bipush (v := nI 8) C (by decide) dX0_setBits_37 ?_
        refine zm_iload C 5 rfl dX0_setBits_39 ?_
        refine zm_imul C dX0_setBits_41 ?_
        refine zm_iload_n C rfl 2 rfl dX0_setBits_42 ?_
        refine zm_isub C dX0_setBits_43 ?_
        refine zm_istore (L' := [(0, .ref a0), (1, .int i1), (2, .int i2), (3, .int i3), (4, .long l4), (6, .int i6), (7, .int (i1 + i6)), (8, .int (((nI 8) * i6) - i2))]) C (by decide) [1, 2, 3, 4, 5, 6, 7, 0] dX0_setBits_44 rfl ?_
        refine zm_iload C 7 rfl dX0_setBits_46 ?_
        refine zm_if_ge (tgt := 60) C dX0_setBits_48 (by decide) (fun z => ?_) (fun z => ?_)
        · replace w := w.1 z
          refine zm_lload C 4 rfl dX0_setBits_60 ?_
          refine zm_iload C 7 rfl dX0_setBits_62 ?_
          refine zm_lushr C dX0_setBits_64 ?_
          refine zm_lstore (L' := [(0, .ref a0), (1, .int i1), (2, .int i2), (3, .int i3), (4, .long l4), (6, .int i6), (7, .int (i1 + i6)), (8, .int (((nI 8) * i6) - i2)), (9, .long ((l4.toUInt64 >>> ((((nI 8) * i6) - i2).toInt64.toUInt64 &&& Int64.toUInt64 63)).toInt64))]) C (by decide) [1, 2, 3, 4, 5, 6, 7, 8, 0] dX0_setBits_65 rfl ?_
          refine zm_aload_n C rfl 0 rfl dX0_setBits_67 ?_
          refine zm_getR C ff_X0_15 dX0_setBits_68 w (fun v2 w => ?_)
          refine zm_iload C 6 rfl dX0_setBits_71 ?_
          refine zm_aload_n C rfl 0 rfl dX0_setBits_73 ?_
          refine zm_getR C ff_X0_15 dX0_setBits_74 w (fun v3 w => ?_)
          refine zm_iload C 6 rfl dX0_setBits_77 ?_
          refine zm_ldB C dX0_setBits_79 w (fun v4 w => ?_)
          refine zm_i2l C dX0_setBits_80 ?_
          refine zm_lload C 8 rfl dX0_setBits_81 ?_
          refine zm_lor C dX0_setBits_83 ?_
          refine zm_l2i C dX0_setBits_84 ?_
          refine zm_i2b C dX0_setBits_85 ?_
          refine zm_stB C dX0_setBits_86 w (fun h1 w => ?_)
          refine zm_iinc (L' := [(0, .ref a0), (1, .int i1), (2, .int i2), (3, .int i3), (4, .long l4), (6, .int (i6 + (nI 1))), (7, .int (i1 + i6)), (8, .int (((nI 8) * i6) - i2)), (9, .long ((l4.toUInt64 >>> ((((nI 8) * i6) - i2).toInt64.toUInt64 &&& Int64.toUInt64 63)).toInt64))]) C (by decide) 5 [1, 2, 3, 4, 5, 0, 6, 7, 8] dX0_setBits_87 rfl rfl rfl ?_
          refine zm_goto (tgt := 5) C dX0_setBits_90 (by decide) ?_
          exact zm_loc [0, 1, 2, 3, 4, 5] rfl w
        · replace w := w.2 z
          refine zm_lload C 4 rfl dX0_setBits_51 ?_
          refine zm_iload C 7 rfl dX0_setBits_53 ?_
          refine zm_ineg C dX0_setBits_55 ?_
          refine zm_lshl C dX0_setBits_56 ?_
          refine zm_goto (tgt := 65) C dX0_setBits_57 (by decide) ?_
          refine zm_lstore (L' := [(0, .ref a0), (1, .int i1), (2, .int i2), (3, .int i3), (4, .long l4), (6, .int i6), (7, .int (i1 + i6)), (8, .int (((nI 8) * i6) - i2)), (9, .long (l4 <<< ((-(((nI 8) * i6) - i2)).toInt64 &&& 63)))]) C (by decide) [1, 2, 3, 4, 5, 6, 7, 8, 0] dX0_setBits_65 rfl ?_
          refine zm_aload_n C rfl 0 rfl dX0_setBits_67 ?_
          refine zm_getR C ff_X0_15 dX0_setBits_68 w (fun v5 w => ?_)
          refine zm_iload C 6 rfl dX0_setBits_71 ?_
          refine zm_aload_n C rfl 0 rfl dX0_setBits_73 ?_
          refine zm_getR C ff_X0_15 dX0_setBits_74 w (fun v6 w => ?_)
          refine zm_iload C 6 rfl dX0_setBits_77 ?_
          refine zm_ldB C dX0_setBits_79 w (fun v7 w => ?_)
          refine zm_i2l C dX0_setBits_80 ?_
          refine zm_lload C 8 rfl dX0_setBits_81 ?_
          refine zm_lor C dX0_setBits_83 ?_
          refine zm_l2i C dX0_setBits_84 ?_
          refine zm_i2b C dX0_setBits_85 ?_
          refine zm_stB C dX0_setBits_86 w (fun h2 w => ?_)
          refine zm_iinc (L' := [(0, .ref a0), (1, .int i1), (2, .int i2), (3, .int i3), (4, .long l4), (6, .int (i6 + (nI 1))), (7, .int (i1 + i6)), (8, .int (((nI 8) * i6) - i2)), (9, .long (l4 <<< ((-(((nI 8) * i6) - i2)).toInt64 &&& 63)))]) C (by decide) 5 [1, 2, 3, 4, 5, 0, 6, 7, 8] dX0_setBits_87 rfl rfl rfl ?_
          refine zm_goto (tgt := 5) C dX0_setBits_90 (by decide) ?_
          exact zm_loc [0, 1, 2, 3, 4, 5] rfl w
      · replace w := w.2 z
        exact zm_return C Rt (by show nc ≤ 0; omega) (by show ns ≤ 0; omega) dX0_setBits_36 w
set_option maxRecDepth 20000 in
theorem B_X1_init_0 {E : zm_E} {K : zm_K} {Post : zm_Po} {nc ns : Nat} (C : zm_Cx E K cX1_init RX1 1 26 2 2004 1) (Rt : zm_Rt E Post 2 2004 none) (hin : zm_in E) {a0 : Nat} {h : zm_H} (hnc : nc + 1 + 1 ≤ 2) (hns : ns + 2000 + 4 ≤ 2004) (w : ¬ (nI 2000) < 0 ∧ 2000 * componentBytes .long ≤ 536870912 ∧ ns + 2000 ≤ 2004 ∧ ∀ v1, h v1 = none → zm_pf (zm_set h v1 (.inl (K.2.2 2, 2000, .inr (.inl (fun _ => 0))))) a0 1 0 (.ref v1) fun h1 => ¬ (nI 4) < 0 ∧ 4 * componentBytes .int ≤ 536870912 ∧ (ns + 2000) + 4 ≤ 2004 ∧ ∀ v2, h1 v2 = none → zm_pf (zm_set h1 v2 (.inl (K.2.2 1, 4, .inl (fun _ => 0)))) a0 1 1 (.ref v2) fun h2 => Post none h2) : zm_Go E nc ns 0 [(0, .ref a0)] [] h := by
  refine zm_aload_n C rfl 0 rfl dX1_init_0 ?_
  refine zm_objInit C (zm_inG (by decide +kernel) rfl) (zm_inG (by decide +kernel) rfl) zi_objInit (by decide) (by decide) (Nat.le_of_ble_eq_true rfl) dX1_init_1 ?_
  refine zm_aload_n C rfl 0 rfl dX1_init_4 ?_
  refine zm_sipush (v := nI 2000) C (by decide) dX1_init_5 ?_
  obtain ⟨g1, g2, g3, w⟩ := w
  refine zm_newa (ty := .long) (N := 2000) (a0 := (2000, .inr (.inl (fun _ => 0)))) C 2 rfl (fun _ => rfl) (fun _ _ z => z) (zm_inG (by decide +kernel) rfl) (fun _ => rfl) dX1_init_8 g1 (by decide) g2 (by show nc + 1 ≤ 2; omega) g3 (fun v1 hq => ?_)
  replace w := w v1 hq
  refine zm_putQ C hin ff_X1_9 ft_X1 fp_X1_1_0 rfl rfl dX1_init_10 w (fun h1 w => ?_)
  refine zm_aload_n C rfl 0 rfl dX1_init_13 ?_
  refine zm_iconst (v := nI 4) C (by decide) dX1_init_14 ?_
  obtain ⟨g1, g2, g3, w⟩ := w
  refine zm_newa (ty := .int) (N := 4) (a0 := (4, .inl (fun _ => 0))) C 1 rfl (fun _ => rfl) (fun _ _ z => z) (zm_inG (by decide +kernel) rfl) (fun _ => rfl) dX1_init_15 g1 (by decide) g2 (by show nc + 1 + 1 ≤ 2; omega) g3 (fun v2 hq => ?_)
  replace w := w v2 hq
  refine zm_putQ C hin ff_X1_15 ft_X1 fp_X1_1_1 rfl rfl dX1_init_17 w (fun h2 w => ?_)
  exact zm_return C Rt (by show nc + 1 + 1 ≤ 2; omega) (by show ns + 2000 + 4 ≤ 2004; omega) dX1_init_20 w
set_option maxRecDepth 20000 in
theorem B_X1_writeOn_0 {E : zm_E} {K : zm_K} {Post : zm_Po} {nc ns : Nat} (C : zm_Cx E K cX1_writeOn RX1 4 87 0 0 3) (Rt : zm_Rt E Post 0 0 none) {a0 : Nat} {a1 : Nat} {h : zm_H} (hnc : nc ≤ 0) (hns : ns ≤ 0) (w : zm_gI h a0 1 2 fun v1 => zm_rc h a1 0 ∧ zm_cv K M_X0_putVarint [.ref a1, .long v1.toInt64] h fun h1 => zm_gI h1 a0 1 2 fun v2 => (v2 ≤ 0 → zm_Go E nc ns 31 [(0, .ref a0), (1, .ref a1), (2, .int (nI 1))] [] h1) ∧ (¬ v2 ≤ 0 → zm_gR h1 a0 1 0 fun v3 => zm_lL K h1 v3 (nI 0) fun v4 => zm_cl K M_X1_zigzag [.long v4] h1 fun v5 h2 => zm_rc h2 a1 0 ∧ zm_cv K M_X0_putVarint [.ref a1, .long v5] h2 fun h3 => zm_Go E nc ns 31 [(0, .ref a0), (1, .ref a1), (2, .int (nI 1))] [] h3)) : zm_Go E nc ns 0 [(0, .ref a0), (1, .ref a1)] [] h := by
  refine zm_aload_n C rfl 1 rfl dX1_writeOn_0 ?_
  refine zm_aload_n C rfl 0 rfl dX1_writeOn_1 ?_
  refine zm_getI C ff_X1_19 dX1_writeOn_2 w (fun v1 w => ?_)
  refine zm_i2l C dX1_writeOn_5 ?_
  obtain ⟨wr, w⟩ := w
  refine zm_Vv (As := [.long v1.toInt64]) (rest := []) C M_X0_putVarint sv_X1_23 rfl dX1_writeOn_6 rfl (Nat.le_of_ble_eq_true rfl) (by decide) (by decide) (by show nc + 0 ≤ 0; omega) (by show ns + 0 ≤ 0; omega) wr w (fun h1 w => ?_)
  refine zm_aload_n C rfl 0 rfl dX1_writeOn_9 ?_
  refine zm_getI C ff_X1_19 dX1_writeOn_10 w (fun v2 w => ?_)
  refine zm_if_le (tgt := 29) C dX1_writeOn_13 (by decide) (fun z => ?_) (fun z => ?_)
  · replace w := w.1 z
    refine zm_iconst (v := nI 1) C (by decide) dX1_writeOn_29 ?_
    refine zm_istore_n (L' := [(0, .ref a0), (1, .ref a1), (2, .int (nI 1))]) C rfl (by decide) [1, 2, 0] dX1_writeOn_30 rfl ?_
    exact w
  · replace w := w.2 z
    refine zm_aload_n C rfl 1 rfl dX1_writeOn_16 ?_
    refine zm_aload_n C rfl 0 rfl dX1_writeOn_17 ?_
    refine zm_getR C ff_X1_9 dX1_writeOn_18 w (fun v3 w => ?_)
    refine zm_iconst (v := nI 0) C (by decide) dX1_writeOn_21 ?_
    refine zm_ldL C dX1_writeOn_22 w (fun v4 w => ?_)
    refine zm_Sl (As := [.long v4]) (rest := [.ref a1]) C M_X1_zigzag ss_X1_29 rfl dX1_writeOn_23 rfl (Nat.le_of_ble_eq_true rfl) (by decide) (by decide) (by show nc + 0 ≤ 0; omega) (by show ns + 0 ≤ 0; omega) w (fun v5 h2 w => ?_)
    obtain ⟨wr, w⟩ := w
    refine zm_Vv (As := [.long v5]) (rest := []) C M_X0_putVarint sv_X1_23 rfl dX1_writeOn_26 rfl (Nat.le_of_ble_eq_true rfl) (by decide) (by decide) (by show nc + 0 ≤ 0; omega) (by show ns + 0 ≤ 0; omega) wr w (fun h3 w => ?_)
    refine zm_iconst (v := nI 1) C (by decide) dX1_writeOn_29 ?_
    refine zm_istore_n (L' := [(0, .ref a0), (1, .ref a1), (2, .int (nI 1))]) C rfl (by decide) [1, 2, 0] dX1_writeOn_30 rfl ?_
    exact w
set_option maxRecDepth 20000 in
theorem B_X1_writeOn_31 {E : zm_E} {K : zm_K} {Post : zm_Po} {nc ns : Nat} (C : zm_Cx E K cX1_writeOn RX1 4 87 0 0 3) (Rt : zm_Rt E Post 0 0 none) {a0 : Nat} {a1 : Nat} {i2 : Int32} {h : zm_H} (hnc : nc ≤ 0) (hns : ns ≤ 0) (w : zm_gI h a0 1 2 fun v1 => (v1 ≤ i2 → Post none h) ∧ (¬ v1 ≤ i2 → zm_gI h a0 1 2 fun v2 => zm_rc h a0 1 ∧ zm_cv K M_X1_writeBlock [.ref a0, .ref a1, .int i2, .int (if i2 + (nI 64) < v2 then i2 + (nI 64) else v2)] h fun h1 => zm_Go E nc ns 31 [(0, .ref a0), (1, .ref a1), (2, .int (i2 + (nI 64)))] [] h1)) : zm_Go E nc ns 31 [(0, .ref a0), (1, .ref a1), (2, .int i2)] [] h := by
  refine zm_iload_n C rfl 2 rfl dX1_writeOn_31 ?_
  refine zm_aload_n C rfl 0 rfl dX1_writeOn_32 ?_
  refine zm_getI C ff_X1_19 dX1_writeOn_33 w (fun v1 w => ?_)
  refine zm_icmp_ge (tgt := 62) C dX1_writeOn_36 (by decide) (fun z => ?_) (fun z => ?_)
  · replace w := w.1 z
    exact zm_return C Rt (by show nc ≤ 0; omega) (by show ns ≤ 0; omega) dX1_writeOn_62 w
  · replace w := w.2 z
    refine zm_aload_n C rfl 0 rfl dX1_writeOn_39 ?_
    refine zm_aload_n C rfl 1 rfl dX1_writeOn_40 ?_
    refine zm_iload_n C rfl 2 rfl dX1_writeOn_41 ?_
    refine zm_aload_n C rfl 0 rfl dX1_writeOn_42 ?_
    refine zm_getI C ff_X1_19 dX1_writeOn_43 w (fun v2 w => ?_)
    refine zm_iload_n C rfl 2 rfl dX1_writeOn_46 ?_
    refine zm_bipush (v := nI 64) C (by decide) dX1_writeOn_47 ?_
    refine zm_iadd C dX1_writeOn_49 ?_
    refine zm_mmin C (zm_inG (by decide +kernel) rfl) (zm_inG (by decide +kernel) rfl) (zm_inG (by decide +kernel) rfl) zi_min (by decide) (by decide) (Nat.le_of_ble_eq_true rfl) (by show nc ≤ 0; omega) (by show ns ≤ 0; omega) dX1_writeOn_50 ?_
    obtain ⟨wr, w⟩ := w
    refine zm_Vv (As := [.ref a1, .int i2, .int (if i2 + (nI 64) < v2 then i2 + (nI 64) else v2)]) (rest := []) C M_X1_writeBlock sv_X1_39 rfl dX1_writeOn_53 rfl (Nat.le_of_ble_eq_true rfl) (by decide) (by decide) (by show nc + 0 ≤ 0; omega) (by show ns + 0 ≤ 0; omega) wr w (fun h1 w => ?_)
    refine zm_iinc (L' := [(0, .ref a0), (1, .ref a1), (2, .int (i2 + (nI 64)))]) C (by decide) 2 [1, 2, 0] dX1_writeOn_56 rfl rfl rfl ?_
    refine zm_goto (tgt := 31) C dX1_writeOn_59 (by decide) ?_
    exact w
set_option maxRecDepth 20000 in
theorem B_X1_writeBlock_0 {E : zm_E} {K : zm_K} {Post : zm_Po} {nc ns : Nat} (C : zm_Cx E K cX1_writeBlock RX1 3 60 0 0 8) (Rt : zm_Rt E Post 0 0 none) {a0 : Nat} {a1 : Nat} {i2 : Int32} {i3 : Int32} {h : zm_H} (hnc : nc ≤ 0) (hns : ns ≤ 0) (w : zm_rc h a0 1 ∧ zm_cl K M_X1_leastDifference [.ref a0, .int i2, .int i3] h fun v1 h1 => zm_cl K M_X1_zigzag [.long v1] h1 fun v2 h2 => zm_rc h2 a1 0 ∧ zm_cv K M_X0_putVarint [.ref a1, .long v2] h2 fun h3 => zm_Go E nc ns 20 [(0, .ref a0), (1, .ref a1), (2, .int i2), (3, .int i3), (4, .long v1), (6, .int (nI 0))] [] h3) : zm_Go E nc ns 0 [(0, .ref a0), (1, .ref a1), (2, .int i2), (3, .int i3)] [] h := by
  refine zm_aload_n C rfl 0 rfl dX1_writeBlock_0 ?_
  refine zm_iload_n C rfl 2 rfl dX1_writeBlock_1 ?_
  refine zm_iload_n C rfl 3 rfl dX1_writeBlock_2 ?_
  obtain ⟨wr, w⟩ := w
  refine zm_Vl (As := [.int i2, .int i3]) (rest := []) C M_X1_leastDifference sv_X1_43 rfl dX1_writeBlock_3 rfl (Nat.le_of_ble_eq_true rfl) (by decide) (by decide) (by show nc + 0 ≤ 0; omega) (by show ns + 0 ≤ 0; omega) wr w (fun v1 h1 w => ?_)
  refine zm_lstore (L' := [(0, .ref a0), (1, .ref a1), (2, .int i2), (3, .int i3), (4, .long v1)]) C (by decide) [1, 2, 3, 4, 0] dX1_writeBlock_6 rfl ?_
  refine zm_aload_n C rfl 1 rfl dX1_writeBlock_8 ?_
  refine zm_lload C 4 rfl dX1_writeBlock_9 ?_
  refine zm_Sl (As := [.long v1]) (rest := [.ref a1]) C M_X1_zigzag ss_X1_29 rfl dX1_writeBlock_11 rfl (Nat.le_of_ble_eq_true rfl) (by decide) (by decide) (by show nc + 0 ≤ 0; omega) (by show ns + 0 ≤ 0; omega) w (fun v2 h2 w => ?_)
  obtain ⟨wr, w⟩ := w
  refine zm_Vv (As := [.long v2]) (rest := []) C M_X0_putVarint sv_X1_23 rfl dX1_writeBlock_14 rfl (Nat.le_of_ble_eq_true rfl) (by decide) (by decide) (by show nc + 0 ≤ 0; omega) (by show ns + 0 ≤ 0; omega) wr w (fun h3 w => ?_)
  refine zm_iconst (v := nI 0) C (by decide) dX1_writeBlock_17 ?_
  refine zm_istore (L' := [(0, .ref a0), (1, .ref a1), (2, .int i2), (3, .int i3), (4, .long v1), (6, .int (nI 0))]) C (by decide) [1, 2, 3, 4, 5, 0] dX1_writeBlock_18 rfl ?_
  exact w
set_option maxRecDepth 20000 in
theorem B_X1_writeBlock_20 {E : zm_E} {K : zm_K} {Post : zm_Po} {nc ns : Nat} (C : zm_Cx E K cX1_writeBlock RX1 3 60 0 0 8) (Rt : zm_Rt E Post 0 0 none) {a0 : Nat} {a1 : Nat} {i2 : Int32} {i3 : Int32} {l4 : Int64} {i6 : Int32} {h : zm_H} (hnc : nc ≤ 0) (hns : ns ≤ 0) (w : ((nI 4) ≤ i6 → zm_Go E nc ns 79 [(0, .ref a0), (1, .ref a1), (2, .int i2), (3, .int i3), (4, .long l4), (6, .int (nI 0))] [] h) ∧ (¬ (nI 4) ≤ i6 → zm_gR h a0 1 1 fun v1 => zm_rc h a0 1 ∧ zm_ci K M_X1_widthOf [.ref a0, .int (i2 + (i6 * (nI 16))), .int (if (i2 + (i6 * (nI 16))) + (nI 16) < i3 then (i2 + (i6 * (nI 16))) + (nI 16) else i3), .long l4] h fun v2 h1 => zm_sI K h1 v1 i6 v2 fun h2 => zm_gR h2 a0 1 1 fun v3 => zm_ld K 1 h2 v3 i6 fun v4 => zm_rc h2 a1 0 ∧ zm_cv K M_X0_put [.ref a1, .int v4] h2 fun h3 => zm_Go E nc ns 20 [(0, .ref a0), (1, .ref a1), (2, .int i2), (3, .int i3), (4, .long l4), (6, .int (i6 + (nI 1)))] [] h3)) : zm_Go E nc ns 20 [(0, .ref a0), (1, .ref a1), (2, .int i2), (3, .int i3), (4, .long l4), (6, .int i6)] [] h := by
  refine zm_iload C 5 rfl dX1_writeBlock_20 ?_
  refine zm_iconst (v := nI 4) C (by decide) dX1_writeBlock_22 ?_
  refine zm_icmp_ge (tgt := 76) C dX1_writeBlock_23 (by decide) (fun z => ?_) (fun z => ?_)
  · replace w := w.1 z
    refine zm_iconst (v := nI 0) C (by decide) dX1_writeBlock_76 ?_
    refine zm_istore (L' := [(0, .ref a0), (1, .ref a1), (2, .int i2), (3, .int i3), (4, .long l4), (6, .int (nI 0))]) C (by decide) [1, 2, 3, 4, 5, 0] dX1_writeBlock_77 rfl ?_
    exact w
  · replace w := w.2 z
    refine zm_iload_n C rfl 2 rfl dX1_writeBlock_26 ?_
    refine zm_iload C 5 rfl dX1_writeBlock_27 ?_
    refine zm_bipush (v := nI 16) C (by decide) dX1_writeBlock_29 ?_
    refine zm_imul C dX1_writeBlock_31 ?_
    refine zm_iadd C dX1_writeBlock_32 ?_
    refine zm_istore (L' := [(0, .ref a0), (1, .ref a1), (2, .int i2), (3, .int i3), (4, .long l4), (6, .int i6), (7, .int (i2 + (i6 * (nI 16))))]) C (by decide) [1, 2, 3, 4, 5, 6, 0] dX1_writeBlock_33 rfl ?_
    refine zm_aload_n C rfl 0 rfl dX1_writeBlock_35 ?_
    refine zm_getR C ff_X1_15 dX1_writeBlock_36 w (fun v1 w => ?_)
    refine zm_iload C 5 rfl dX1_writeBlock_39 ?_
    refine zm_aload_n C rfl 0 rfl dX1_writeBlock_41 ?_
    refine zm_iload C 6 rfl dX1_writeBlock_42 ?_
    refine zm_iload_n C rfl 3 rfl dX1_writeBlock_44 ?_
    refine zm_iload C 6 rfl dX1_writeBlock_45 ?_
    refine zm_bipush (v := nI 16) C (by decide) dX1_writeBlock_47 ?_
    refine zm_iadd C dX1_writeBlock_49 ?_
    refine zm_mmin C (zm_inG (by decide +kernel) rfl) (zm_inG (by decide +kernel) rfl) (zm_inG (by decide +kernel) rfl) zi_min (by decide) (by decide) (Nat.le_of_ble_eq_true rfl) (by show nc ≤ 0; omega) (by show ns ≤ 0; omega) dX1_writeBlock_50 ?_
    refine zm_lload C 4 rfl dX1_writeBlock_53 ?_
    obtain ⟨wr, w⟩ := w
    refine zm_Vi (As := [.int (i2 + (i6 * (nI 16))), .int (if (i2 + (i6 * (nI 16))) + (nI 16) < i3 then (i2 + (i6 * (nI 16))) + (nI 16) else i3), .long l4]) (rest := [.int i6, .ref v1]) C M_X1_widthOf sv_X1_47 rfl dX1_writeBlock_55 rfl (Nat.le_of_ble_eq_true rfl) (by decide) (by decide) (by show nc + 0 ≤ 0; omega) (by show ns + 0 ≤ 0; omega) wr w (fun v2 h1 w => ?_)
    refine zm_stI C dX1_writeBlock_58 w (fun h2 w => ?_)
    refine zm_aload_n C rfl 1 rfl dX1_writeBlock_59 ?_
    refine zm_aload_n C rfl 0 rfl dX1_writeBlock_60 ?_
    refine zm_getR C ff_X1_15 dX1_writeBlock_61 w (fun v3 w => ?_)
    refine zm_iload C 5 rfl dX1_writeBlock_64 ?_
    refine zm_ldI C dX1_writeBlock_66 w (fun v4 w => ?_)
    obtain ⟨wr, w⟩ := w
    refine zm_Vv (As := [.int v4]) (rest := []) C M_X0_put sv_X1_51 rfl dX1_writeBlock_67 rfl (Nat.le_of_ble_eq_true rfl) (by decide) (by decide) (by show nc + 0 ≤ 0; omega) (by show ns + 0 ≤ 0; omega) wr w (fun h3 w => ?_)
    refine zm_iinc (L' := [(0, .ref a0), (1, .ref a1), (2, .int i2), (3, .int i3), (4, .long l4), (6, .int (i6 + (nI 1))), (7, .int (i2 + (i6 * (nI 16))))]) C (by decide) 5 [1, 2, 3, 4, 5, 0, 6] dX1_writeBlock_70 rfl rfl rfl ?_
    refine zm_goto (tgt := 20) C dX1_writeBlock_73 (by decide) ?_
    exact zm_loc [0, 1, 2, 3, 4, 5] rfl w
set_option maxRecDepth 20000 in
theorem B_X1_writeBlock_79 {E : zm_E} {K : zm_K} {Post : zm_Po} {nc ns : Nat} (C : zm_Cx E K cX1_writeBlock RX1 3 60 0 0 8) (Rt : zm_Rt E Post 0 0 none) {a0 : Nat} {a1 : Nat} {i2 : Int32} {i3 : Int32} {l4 : Int64} {i6 : Int32} {h : zm_H} (hnc : nc ≤ 0) (hns : ns ≤ 0) (w : ((nI 4) ≤ i6 → Post none h) ∧ (¬ (nI 4) ≤ i6 → zm_gR h a0 1 1 fun v1 => zm_ld K 1 h v1 i6 fun v2 => zm_rc h a0 1 ∧ zm_cv K M_X1_writePart [.ref a0, .ref a1, .int (i2 + (i6 * (nI 16))), .int (if (i2 + (i6 * (nI 16))) + (nI 16) < i3 then (i2 + (i6 * (nI 16))) + (nI 16) else i3), .int v2, .long l4] h fun h1 => zm_Go E nc ns 79 [(0, .ref a0), (1, .ref a1), (2, .int i2), (3, .int i3), (4, .long l4), (6, .int (i6 + (nI 1)))] [] h1)) : zm_Go E nc ns 79 [(0, .ref a0), (1, .ref a1), (2, .int i2), (3, .int i3), (4, .long l4), (6, .int i6)] [] h := by
  refine zm_iload C 5 rfl dX1_writeBlock_79 ?_
  refine zm_iconst (v := nI 4) C (by decide) dX1_writeBlock_81 ?_
  refine zm_icmp_ge (tgt := 125) C dX1_writeBlock_82 (by decide) (fun z => ?_) (fun z => ?_)
  · replace w := w.1 z
    exact zm_return C Rt (by show nc ≤ 0; omega) (by show ns ≤ 0; omega) dX1_writeBlock_125 w
  · replace w := w.2 z
    refine zm_iload_n C rfl 2 rfl dX1_writeBlock_85 ?_
    refine zm_iload C 5 rfl dX1_writeBlock_86 ?_
    refine zm_bipush (v := nI 16) C (by decide) dX1_writeBlock_88 ?_
    refine zm_imul C dX1_writeBlock_90 ?_
    refine zm_iadd C dX1_writeBlock_91 ?_
    refine zm_istore (L' := [(0, .ref a0), (1, .ref a1), (2, .int i2), (3, .int i3), (4, .long l4), (6, .int i6), (7, .int (i2 + (i6 * (nI 16))))]) C (by decide) [1, 2, 3, 4, 5, 6, 0] dX1_writeBlock_92 rfl ?_
    refine zm_aload_n C rfl 0 rfl dX1_writeBlock_94 ?_
    refine zm_aload_n C rfl 1 rfl dX1_writeBlock_95 ?_
    refine zm_iload C 6 rfl dX1_writeBlock_96 ?_
    refine zm_iload_n C rfl 3 rfl dX1_writeBlock_98 ?_
    refine zm_iload C 6 rfl dX1_writeBlock_99 ?_
    refine zm_bipush (v := nI 16) C (by decide) dX1_writeBlock_101 ?_
    refine zm_iadd C dX1_writeBlock_103 ?_
    refine zm_mmin C (zm_inG (by decide +kernel) rfl) (zm_inG (by decide +kernel) rfl) (zm_inG (by decide +kernel) rfl) zi_min (by decide) (by decide) (Nat.le_of_ble_eq_true rfl) (by show nc ≤ 0; omega) (by show ns ≤ 0; omega) dX1_writeBlock_104 ?_
    refine zm_aload_n C rfl 0 rfl dX1_writeBlock_107 ?_
    refine zm_getR C ff_X1_15 dX1_writeBlock_108 w (fun v1 w => ?_)
    refine zm_iload C 5 rfl dX1_writeBlock_111 ?_
    refine zm_ldI C dX1_writeBlock_113 w (fun v2 w => ?_)
    refine zm_lload C 4 rfl dX1_writeBlock_114 ?_
    obtain ⟨wr, w⟩ := w
    refine zm_Vv (As := [.ref a1, .int (i2 + (i6 * (nI 16))), .int (if (i2 + (i6 * (nI 16))) + (nI 16) < i3 then (i2 + (i6 * (nI 16))) + (nI 16) else i3), .int v2, .long l4]) (rest := []) C M_X1_writePart sv_X1_55 rfl dX1_writeBlock_116 rfl (Nat.le_of_ble_eq_true rfl) (by decide) (by decide) (by show nc + 0 ≤ 0; omega) (by show ns + 0 ≤ 0; omega) wr w (fun h1 w => ?_)
    refine zm_iinc (L' := [(0, .ref a0), (1, .ref a1), (2, .int i2), (3, .int i3), (4, .long l4), (6, .int (i6 + (nI 1))), (7, .int (i2 + (i6 * (nI 16))))]) C (by decide) 5 [1, 2, 3, 4, 5, 0, 6] dX1_writeBlock_119 rfl rfl rfl ?_
    refine zm_goto (tgt := 79) C dX1_writeBlock_122 (by decide) ?_
    exact zm_loc [0, 1, 2, 3, 4, 5] rfl w
set_option maxRecDepth 20000 in
theorem B_X1_leastDifference_0 {E : zm_E} {K : zm_K} {Post : zm_Po} {nc ns : Nat} (C : zm_Cx E K cX1_leastDifference RX1 1 26 0 0 6) (Rt : zm_Rt E Post 0 0 (some .long)) {a0 : Nat} {i1 : Int32} {i2 : Int32} {h : zm_H} (w : zm_Go E nc ns 7 [(0, .ref a0), (2, .int i2), (3, .long (lN 9223372036854775807)), (5, .int i1)] [] h) : zm_Go E nc ns 0 [(0, .ref a0), (1, .int i1), (2, .int i2)] [] h := by
  refine zm_ldc2 (v := lN 9223372036854775807) C (zm_inG (by decide +kernel) rfl) dX1_leastDifference_0 ?_
  refine zm_lstore_n (L' := [(0, .ref a0), (1, .int i1), (2, .int i2), (3, .long (lN 9223372036854775807))]) C rfl (by decide) [1, 2, 3, 0] dX1_leastDifference_3 rfl ?_
  refine zm_iload_n C rfl 1 rfl dX1_leastDifference_4 ?_
  refine zm_istore (L' := [(0, .ref a0), (1, .int i1), (2, .int i2), (3, .long (lN 9223372036854775807)), (5, .int i1)]) C (by decide) [1, 2, 3, 4, 0] dX1_leastDifference_5 rfl ?_
  exact zm_loc [0, 2, 3, 4] rfl w
set_option maxRecDepth 20000 in
theorem B_X1_leastDifference_7 {E : zm_E} {K : zm_K} {Post : zm_Po} {nc ns : Nat} (C : zm_Cx E K cX1_leastDifference RX1 1 26 0 0 6) (Rt : zm_Rt E Post 0 0 (some .long)) {a0 : Nat} {i2 : Int32} {l3 : Int64} {i5 : Int32} {h : zm_H} (hnc : nc ≤ 0) (hns : ns ≤ 0) (w : (i2 ≤ i5 → Post (some (.long l3)) h) ∧ (¬ i2 ≤ i5 → zm_gR h a0 1 0 fun v1 => zm_lL K h v1 i5 fun v2 => zm_gR h a0 1 0 fun v3 => zm_lL K h v3 (i5 - (nI 1)) fun v4 => zm_Go E nc ns 7 [(0, .ref a0), (2, .int i2), (3, .long (if v2 - v4 < l3 then v2 - v4 else l3)), (5, .int (i5 + (nI 1)))] [] h)) : zm_Go E nc ns 7 [(0, .ref a0), (2, .int i2), (3, .long l3), (5, .int i5)] [] h := by
  refine zm_iload C 3 rfl dX1_leastDifference_7 ?_
  refine zm_iload_n C rfl 1 rfl dX1_leastDifference_9 ?_
  refine zm_icmp_ge (tgt := 41) C dX1_leastDifference_10 (by decide) (fun z => ?_) (fun z => ?_)
  · replace w := w.1 z
    refine zm_lload_n C rfl 2 rfl dX1_leastDifference_41 ?_
    exact zm_lreturn C Rt (by show nc ≤ 0; omega) (by show ns ≤ 0; omega) dX1_leastDifference_42 w
  · replace w := w.2 z
    refine zm_lload_n C rfl 2 rfl dX1_leastDifference_13 ?_
    refine zm_aload_n C rfl 0 rfl dX1_leastDifference_14 ?_
    refine zm_getR C ff_X1_9 dX1_leastDifference_15 w (fun v1 w => ?_)
    refine zm_iload C 3 rfl dX1_leastDifference_18 ?_
    refine zm_ldL C dX1_leastDifference_20 w (fun v2 w => ?_)
    refine zm_aload_n C rfl 0 rfl dX1_leastDifference_21 ?_
    refine zm_getR C ff_X1_9 dX1_leastDifference_22 w (fun v3 w => ?_)
    refine zm_iload C 3 rfl dX1_leastDifference_25 ?_
    refine zm_iconst (v := nI 1) C (by decide) dX1_leastDifference_27 ?_
    refine zm_isub C dX1_leastDifference_28 ?_
    refine zm_ldL C dX1_leastDifference_29 w (fun v4 w => ?_)
    refine zm_lsub C dX1_leastDifference_30 ?_
    refine zm_mminL C (zm_inG (by decide +kernel) rfl) (zm_inG (by decide +kernel) rfl) (zm_inG (by decide +kernel) rfl) zi_minL (by decide) (by decide) (Nat.le_of_ble_eq_true rfl) (by show nc ≤ 0; omega) (by show ns ≤ 0; omega) dX1_leastDifference_31 ?_
    refine zm_lstore_n (L' := [(0, .ref a0), (2, .int i2), (3, .long (if v2 - v4 < l3 then v2 - v4 else l3)), (5, .int i5)]) C rfl (by decide) [1, 2, 0, 3] dX1_leastDifference_34 rfl ?_
    refine zm_iinc (L' := [(0, .ref a0), (2, .int i2), (3, .long (if v2 - v4 < l3 then v2 - v4 else l3)), (5, .int (i5 + (nI 1)))]) C (by decide) 3 [1, 2, 3, 0] dX1_leastDifference_35 rfl rfl rfl ?_
    refine zm_goto (tgt := 7) C dX1_leastDifference_38 (by decide) ?_
    exact w
set_option maxRecDepth 20000 in
theorem B_X1_widthOf_0 {E : zm_E} {K : zm_K} {Post : zm_Po} {nc ns : Nat} (C : zm_Cx E K cX1_widthOf RX1 2 22 0 0 8) (Rt : zm_Rt E Post 0 0 (some .int)) {a0 : Nat} {i1 : Int32} {i2 : Int32} {l3 : Int64} {h : zm_H} (w : zm_Go E nc ns 6 [(0, .ref a0), (2, .int i2), (3, .long l3), (5, .long (lN 0)), (7, .int i1)] [] h) : zm_Go E nc ns 0 [(0, .ref a0), (1, .int i1), (2, .int i2), (3, .long l3)] [] h := by
  refine zm_lconst (v := lN 0) C (by decide) dX1_widthOf_0 ?_
  refine zm_lstore (L' := [(0, .ref a0), (1, .int i1), (2, .int i2), (3, .long l3), (5, .long (lN 0))]) C (by decide) [1, 2, 3, 4, 0] dX1_widthOf_1 rfl ?_
  refine zm_iload_n C rfl 1 rfl dX1_widthOf_3 ?_
  refine zm_istore (L' := [(0, .ref a0), (1, .int i1), (2, .int i2), (3, .long l3), (5, .long (lN 0)), (7, .int i1)]) C (by decide) [1, 2, 3, 4, 5, 0] dX1_widthOf_4 rfl ?_
  exact zm_loc [0, 2, 3, 4, 5] rfl w
set_option maxRecDepth 20000 in
theorem B_X1_widthOf_6 {E : zm_E} {K : zm_K} {Post : zm_Po} {nc ns : Nat} (C : zm_Cx E K cX1_widthOf RX1 2 22 0 0 8) (Rt : zm_Rt E Post 0 0 (some .int)) {a0 : Nat} {i2 : Int32} {l3 : Int64} {l5 : Int64} {i7 : Int32} {h : zm_H} (hnc : nc ≤ 0) (hns : ns ≤ 0) (w : (i2 ≤ i7 → zm_ci K M_X8_bitsOf [.long l5] h fun v1 h1 => Post (some (.int v1)) h1) ∧ (¬ i2 ≤ i7 → zm_gR h a0 1 0 fun v2 => zm_lL K h v2 i7 fun v3 => zm_gR h a0 1 0 fun v4 => zm_lL K h v4 (i7 - (nI 1)) fun v5 => zm_Go E nc ns 6 [(0, .ref a0), (2, .int i2), (3, .long l3), (5, .long (l5 ||| ((v3 - v5) - l3))), (7, .int (i7 + (nI 1)))] [] h)) : zm_Go E nc ns 6 [(0, .ref a0), (2, .int i2), (3, .long l3), (5, .long l5), (7, .int i7)] [] h := by
  refine zm_iload C 4 rfl dX1_widthOf_6 ?_
  refine zm_iload_n C rfl 1 rfl dX1_widthOf_8 ?_
  refine zm_icmp_ge (tgt := 42) C dX1_widthOf_9 (by decide) (fun z => ?_) (fun z => ?_)
  · replace w := w.1 z
    refine zm_lload C 3 rfl dX1_widthOf_42 ?_
    refine zm_Ni (As := [.long l5]) (rest := []) C M_X8_bitsOf sn_X1_66 rfl dX1_widthOf_44 rfl (Nat.le_of_ble_eq_true rfl) (by decide) (by decide) (by show nc + 0 ≤ 0; omega) (by show ns + 0 ≤ 0; omega) w (fun v1 h1 w => ?_)
    exact zm_ireturn C Rt (by show nc ≤ 0; omega) (by show ns ≤ 0; omega) rfl dX1_widthOf_47 w
  · replace w := w.2 z
    refine zm_lload C 3 rfl dX1_widthOf_12 ?_
    refine zm_aload_n C rfl 0 rfl dX1_widthOf_14 ?_
    refine zm_getR C ff_X1_9 dX1_widthOf_15 w (fun v2 w => ?_)
    refine zm_iload C 4 rfl dX1_widthOf_18 ?_
    refine zm_ldL C dX1_widthOf_20 w (fun v3 w => ?_)
    refine zm_aload_n C rfl 0 rfl dX1_widthOf_21 ?_
    refine zm_getR C ff_X1_9 dX1_widthOf_22 w (fun v4 w => ?_)
    refine zm_iload C 4 rfl dX1_widthOf_25 ?_
    refine zm_iconst (v := nI 1) C (by decide) dX1_widthOf_27 ?_
    refine zm_isub C dX1_widthOf_28 ?_
    refine zm_ldL C dX1_widthOf_29 w (fun v5 w => ?_)
    refine zm_lsub C dX1_widthOf_30 ?_
    refine zm_lload_n C rfl 2 rfl dX1_widthOf_31 ?_
    refine zm_lsub C dX1_widthOf_32 ?_
    refine zm_lor C dX1_widthOf_33 ?_
    refine zm_lstore (L' := [(0, .ref a0), (2, .int i2), (3, .long l3), (5, .long (l5 ||| ((v3 - v5) - l3))), (7, .int i7)]) C (by decide) [1, 2, 3, 0, 4] dX1_widthOf_34 rfl ?_
    refine zm_iinc (L' := [(0, .ref a0), (2, .int i2), (3, .long l3), (5, .long (l5 ||| ((v3 - v5) - l3))), (7, .int (i7 + (nI 1)))]) C (by decide) 4 [1, 2, 3, 4, 0] dX1_widthOf_36 rfl rfl rfl ?_
    refine zm_goto (tgt := 6) C dX1_widthOf_39 (by decide) ?_
    exact w
set_option maxRecDepth 20000 in
theorem B_X1_writePart_0 {E : zm_E} {K : zm_K} {Post : zm_Po} {nc ns : Nat} (C : zm_Cx E K cX1_writePart RX1 2 30 0 0 11) (Rt : zm_Rt E Post 0 0 none) {a0 : Nat} {a1 : Nat} {i2 : Int32} {i3 : Int32} {i4 : Int32} {l5 : Int64} {h : zm_H} (hnc : nc ≤ 0) (hns : ns ≤ 0) (w : zm_gI h a1 0 1 fun v1 => zm_rc h a1 0 ∧ zm_cv K M_X0_putZeros [.ref a1, .int ((nI 2) * i4)] h fun h1 => zm_Go E nc ns 17 [(0, .ref a0), (1, .ref a1), (2, .int i2), (3, .int i3), (4, .int i4), (5, .long l5), (7, .int v1), (8, .int i2)] [] h1) : zm_Go E nc ns 0 [(0, .ref a0), (1, .ref a1), (2, .int i2), (3, .int i3), (4, .int i4), (5, .long l5)] [] h := by
  refine zm_aload_n C rfl 1 rfl dX1_writePart_0 ?_
  refine zm_getI C ff_X1_70 dX1_writePart_1 w (fun v1 w => ?_)
  refine zm_istore (L' := [(0, .ref a0), (1, .ref a1), (2, .int i2), (3, .int i3), (4, .int i4), (5, .long l5), (7, .int v1)]) C (by decide) [1, 2, 3, 4, 5, 6, 0] dX1_writePart_4 rfl ?_
  refine zm_aload_n C rfl 1 rfl dX1_writePart_6 ?_
  refine zm_iconst (v := nI 2) C (by decide) dX1_writePart_7 ?_
  refine zm_iload C 4 rfl dX1_writePart_8 ?_
  refine zm_imul C dX1_writePart_10 ?_
  obtain ⟨wr, w⟩ := w
  refine zm_Vv (As := [.int ((nI 2) * i4)]) (rest := []) C M_X0_putZeros sv_X1_73 rfl dX1_writePart_11 rfl (Nat.le_of_ble_eq_true rfl) (by decide) (by decide) (by show nc + 0 ≤ 0; omega) (by show ns + 0 ≤ 0; omega) wr w (fun h1 w => ?_)
  refine zm_iload_n C rfl 2 rfl dX1_writePart_14 ?_
  refine zm_istore (L' := [(0, .ref a0), (1, .ref a1), (2, .int i2), (3, .int i3), (4, .int i4), (5, .long l5), (7, .int v1), (8, .int i2)]) C (by decide) [1, 2, 3, 4, 5, 6, 7, 0] dX1_writePart_15 rfl ?_
  exact w
set_option maxRecDepth 20000 in
theorem B_X1_writePart_17 {E : zm_E} {K : zm_K} {Post : zm_Po} {nc ns : Nat} (C : zm_Cx E K cX1_writePart RX1 2 30 0 0 11) (Rt : zm_Rt E Post 0 0 none) {a0 : Nat} {a1 : Nat} {i2 : Int32} {i3 : Int32} {i4 : Int32} {l5 : Int64} {i7 : Int32} {i8 : Int32} {h : zm_H} (hnc : nc ≤ 0) (hns : ns ≤ 0) (w : (i3 ≤ i8 → Post none h) ∧ (¬ i3 ≤ i8 → zm_gR h a0 1 0 fun v1 => zm_lL K h v1 i8 fun v2 => zm_gR h a0 1 0 fun v3 => zm_lL K h v3 (i8 - (nI 1)) fun v4 => zm_rc h a1 0 ∧ zm_cv K M_X0_setBits [.ref a1, .int i7, .int ((i8 - i2) * i4), .int i4, .long ((v2 - v4) - l5)] h fun h1 => zm_Go E nc ns 17 [(0, .ref a0), (1, .ref a1), (2, .int i2), (3, .int i3), (4, .int i4), (5, .long l5), (7, .int i7), (8, .int (i8 + (nI 1)))] [] h1)) : zm_Go E nc ns 17 [(0, .ref a0), (1, .ref a1), (2, .int i2), (3, .int i3), (4, .int i4), (5, .long l5), (7, .int i7), (8, .int i8)] [] h := by
  refine zm_iload C 7 rfl dX1_writePart_17 ?_
  refine zm_iload_n C rfl 3 rfl dX1_writePart_19 ?_
  refine zm_icmp_ge (tgt := 68) C dX1_writePart_20 (by decide) (fun z => ?_) (fun z => ?_)
  · replace w := w.1 z
    exact zm_return C Rt (by show nc ≤ 0; omega) (by show ns ≤ 0; omega) dX1_writePart_68 w
  · replace w := w.2 z
    refine zm_aload_n C rfl 0 rfl dX1_writePart_23 ?_
    refine zm_getR C ff_X1_9 dX1_writePart_24 w (fun v1 w => ?_)
    refine zm_iload C 7 rfl dX1_writePart_27 ?_
    refine zm_ldL C dX1_writePart_29 w (fun v2 w => ?_)
    refine zm_aload_n C rfl 0 rfl dX1_writePart_30 ?_
    refine zm_getR C ff_X1_9 dX1_writePart_31 w (fun v3 w => ?_)
    refine zm_iload C 7 rfl dX1_writePart_34 ?_
    refine zm_iconst (v := nI 1) C (by decide) dX1_writePart_36 ?_
    refine zm_isub C dX1_writePart_37 ?_
    refine zm_ldL C dX1_writePart_38 w (fun v4 w => ?_)
    refine zm_lsub C dX1_writePart_39 ?_
    refine zm_lload C 5 rfl dX1_writePart_40 ?_
    refine zm_lsub C dX1_writePart_42 ?_
    refine zm_lstore (L' := [(0, .ref a0), (1, .ref a1), (2, .int i2), (3, .int i3), (4, .int i4), (5, .long l5), (7, .int i7), (8, .int i8), (9, .long ((v2 - v4) - l5))]) C (by decide) [1, 2, 3, 4, 5, 6, 7, 8, 0] dX1_writePart_43 rfl ?_
    refine zm_aload_n C rfl 1 rfl dX1_writePart_45 ?_
    refine zm_iload C 6 rfl dX1_writePart_46 ?_
    refine zm_iload C 7 rfl dX1_writePart_48 ?_
    refine zm_iload_n C rfl 2 rfl dX1_writePart_50 ?_
    refine zm_isub C dX1_writePart_51 ?_
    refine zm_iload C 4 rfl dX1_writePart_52 ?_
    refine zm_imul C dX1_writePart_54 ?_
    refine zm_iload C 4 rfl dX1_writePart_55 ?_
    refine zm_lload C 8 rfl dX1_writePart_57 ?_
    obtain ⟨wr, w⟩ := w
    refine zm_Vv (As := [.int i7, .int ((i8 - i2) * i4), .int i4, .long ((v2 - v4) - l5)]) (rest := []) C M_X0_setBits sv_X1_76 rfl dX1_writePart_59 rfl (Nat.le_of_ble_eq_true rfl) (by decide) (by decide) (by show nc + 0 ≤ 0; omega) (by show ns + 0 ≤ 0; omega) wr w (fun h1 w => ?_)
    refine zm_iinc (L' := [(0, .ref a0), (1, .ref a1), (2, .int i2), (3, .int i3), (4, .int i4), (5, .long l5), (7, .int i7), (8, .int (i8 + (nI 1))), (9, .long ((v2 - v4) - l5))]) C (by decide) 7 [1, 2, 3, 4, 5, 6, 7, 0, 8] dX1_writePart_62 rfl rfl rfl ?_
    refine zm_goto (tgt := 17) C dX1_writePart_65 (by decide) ?_
    exact zm_loc [0, 1, 2, 3, 4, 5, 6, 7] rfl w
set_option maxRecDepth 20000 in
theorem B_X1_readFrom_0 {E : zm_E} {K : zm_K} {Post : zm_Po} {nc ns : Nat} (C : zm_Cx E K cX1_readFrom RX1 5 96 0 0 6) (Rt : zm_Rt E Post 0 0 none) {a0 : Nat} {a1 : Nat} {h : zm_H} (hnc : nc ≤ 0) (hns : ns ≤ 0) (w : zm_pf h a0 1 2 (.int (nI 0)) fun h1 => zm_rc h1 a1 7 ∧ zm_cl K M_X7_varint [.ref a1] h1 fun v1 h2 => ((lg_cmp v1 (lN 0)) < 0 → zm_rc h2 a1 7 ∧ zm_cv K M_X7_fail [.ref a1, .int (nI 4)] h2 fun h3 => zm_rc h3 a1 7 ∧ zm_ci K M_X7_failed [.ref a1] h3 fun v2 h4 => (v2 = 0 → (v1.toInt32 ≤ 0 → zm_Go E nc ns 62 [(0, .ref a0), (1, .ref a1), (4, .int v1.toInt32), (5, .int (nI 1))] [] h4) ∧ (¬ v1.toInt32 ≤ 0 → zm_gR h4 a0 1 0 fun v3 => zm_rc h4 a1 7 ∧ zm_cl K M_X7_varint [.ref a1] h4 fun v4 h5 => zm_cl K M_X1_unzigzag [.long v4] h5 fun v5 h6 => zm_sL K h6 v3 (nI 0) v5 fun h7 => zm_Go E nc ns 62 [(0, .ref a0), (1, .ref a1), (4, .int v1.toInt32), (5, .int (nI 1))] [] h7)) ∧ (¬ v2 = 0 → Post none h4)) ∧ (¬ (lg_cmp v1 (lN 0)) < 0 → ((lg_cmp v1 (lN 2000)) ≤ 0 → zm_rc h2 a1 7 ∧ zm_ci K M_X7_failed [.ref a1] h2 fun v6 h8 => (v6 = 0 → (v1.toInt32 ≤ 0 → zm_Go E nc ns 62 [(0, .ref a0), (1, .ref a1), (4, .int v1.toInt32), (5, .int (nI 1))] [] h8) ∧ (¬ v1.toInt32 ≤ 0 → zm_gR h8 a0 1 0 fun v7 => zm_rc h8 a1 7 ∧ zm_cl K M_X7_varint [.ref a1] h8 fun v8 h9 => zm_cl K M_X1_unzigzag [.long v8] h9 fun v9 h10 => zm_sL K h10 v7 (nI 0) v9 fun h11 => zm_Go E nc ns 62 [(0, .ref a0), (1, .ref a1), (4, .int v1.toInt32), (5, .int (nI 1))] [] h11)) ∧ (¬ v6 = 0 → Post none h8)) ∧ (¬ (lg_cmp v1 (lN 2000)) ≤ 0 → zm_rc h2 a1 7 ∧ zm_cv K M_X7_fail [.ref a1, .int (nI 4)] h2 fun h12 => zm_rc h12 a1 7 ∧ zm_ci K M_X7_failed [.ref a1] h12 fun v10 h13 => (v10 = 0 → (v1.toInt32 ≤ 0 → zm_Go E nc ns 62 [(0, .ref a0), (1, .ref a1), (4, .int v1.toInt32), (5, .int (nI 1))] [] h13) ∧ (¬ v1.toInt32 ≤ 0 → zm_gR h13 a0 1 0 fun v11 => zm_rc h13 a1 7 ∧ zm_cl K M_X7_varint [.ref a1] h13 fun v12 h14 => zm_cl K M_X1_unzigzag [.long v12] h14 fun v13 h15 => zm_sL K h15 v11 (nI 0) v13 fun h16 => zm_Go E nc ns 62 [(0, .ref a0), (1, .ref a1), (4, .int v1.toInt32), (5, .int (nI 1))] [] h16)) ∧ (¬ v10 = 0 → Post none h13)))) : zm_Go E nc ns 0 [(0, .ref a0), (1, .ref a1)] [] h := by
  refine zm_aload_n C rfl 0 rfl dX1_readFrom_0 ?_
  refine zm_iconst (v := nI 0) C (by decide) dX1_readFrom_1 ?_
  refine zm_put C ff_X1_19 ft_X1 fp_X1_1_2 rfl rfl dX1_readFrom_2 w (fun h1 w => ?_)
  refine zm_aload_n C rfl 1 rfl dX1_readFrom_5 ?_
  obtain ⟨wr, w⟩ := w
  refine zm_Vl (As := []) (rest := []) C M_X7_varint sv_X1_80 rfl dX1_readFrom_6 rfl (Nat.le_of_ble_eq_true rfl) (by decide) (by decide) (by show nc + 0 ≤ 0; omega) (by show ns + 0 ≤ 0; omega) wr w (fun v1 h2 w => ?_)
  refine zm_lstore_n (L' := [(0, .ref a0), (1, .ref a1), (2, .long v1)]) C rfl (by decide) [1, 2, 0] dX1_readFrom_9 rfl ?_
  refine zm_lload_n C rfl 2 rfl dX1_readFrom_10 ?_
  refine zm_lconst (v := lN 0) C (by decide) dX1_readFrom_11 ?_
  refine zm_lcmp C dX1_readFrom_12 ?_
  refine zm_if_lt (tgt := 24) C dX1_readFrom_13 (by decide) (fun z => ?_) (fun z => ?_)
  · replace w := w.1 z
    refine zm_aload_n C rfl 1 rfl dX1_readFrom_24 ?_
    refine zm_iconst (v := nI 4) C (by decide) dX1_readFrom_25 ?_
    obtain ⟨wr, w⟩ := w
    refine zm_Vv (As := [.int (nI 4)]) (rest := []) C M_X7_fail sv_X1_88 rfl dX1_readFrom_26 rfl (Nat.le_of_ble_eq_true rfl) (by decide) (by decide) (by show nc + 0 ≤ 0; omega) (by show ns + 0 ≤ 0; omega) wr w (fun h3 w => ?_)
    refine zm_aload_n C rfl 1 rfl dX1_readFrom_29 ?_
    obtain ⟨wr, w⟩ := w
    refine zm_Vi (As := []) (rest := []) C M_X7_failed sv_X1_91 rfl dX1_readFrom_30 rfl (Nat.le_of_ble_eq_true rfl) (by decide) (by decide) (by show nc + 0 ≤ 0; omega) (by show ns + 0 ≤ 0; omega) wr w (fun v2 h4 w => ?_)
    refine zm_if_eq (tgt := 37) C dX1_readFrom_33 (by decide) (fun z => ?_) (fun z => ?_)
    · replace w := w.1 z
      refine zm_lload_n C rfl 2 rfl dX1_readFrom_37 ?_
      refine zm_l2i C dX1_readFrom_38 ?_
      refine zm_istore (L' := [(0, .ref a0), (1, .ref a1), (2, .long v1), (4, .int v1.toInt32)]) C (by decide) [1, 2, 3, 0] dX1_readFrom_39 rfl ?_
      refine zm_iload C 3 rfl dX1_readFrom_41 ?_
      refine zm_if_le (tgt := 59) C dX1_readFrom_43 (by decide) (fun z => ?_) (fun z => ?_)
      · replace w := w.1 z
        refine zm_iconst (v := nI 1) C (by decide) dX1_readFrom_59 ?_
        refine zm_istore (L' := [(0, .ref a0), (1, .ref a1), (2, .long v1), (4, .int v1.toInt32), (5, .int (nI 1))]) C (by decide) [1, 2, 3, 4, 0] dX1_readFrom_60 rfl ?_
        exact zm_loc [0, 1, 3, 4] rfl w
      · replace w := w.2 z
        refine zm_aload_n C rfl 0 rfl dX1_readFrom_46 ?_
        refine zm_getR C ff_X1_9 dX1_readFrom_47 w (fun v3 w => ?_)
        refine zm_iconst (v := nI 0) C (by decide) dX1_readFrom_50 ?_
        refine zm_aload_n C rfl 1 rfl dX1_readFrom_51 ?_
        obtain ⟨wr, w⟩ := w
        refine zm_Vl (As := []) (rest := [.int (nI 0), .ref v3]) C M_X7_varint sv_X1_80 rfl dX1_readFrom_52 rfl (Nat.le_of_ble_eq_true rfl) (by decide) (by decide) (by show nc + 0 ≤ 0; omega) (by show ns + 0 ≤ 0; omega) wr w (fun v4 h5 w => ?_)
        refine zm_Sl (As := [.long v4]) (rest := [.int (nI 0), .ref v3]) C M_X1_unzigzag ss_X1_95 rfl dX1_readFrom_55 rfl (Nat.le_of_ble_eq_true rfl) (by decide) (by decide) (by show nc + 0 ≤ 0; omega) (by show ns + 0 ≤ 0; omega) w (fun v5 h6 w => ?_)
        refine zm_stL C dX1_readFrom_58 w (fun h7 w => ?_)
        refine zm_iconst (v := nI 1) C (by decide) dX1_readFrom_59 ?_
        refine zm_istore (L' := [(0, .ref a0), (1, .ref a1), (2, .long v1), (4, .int v1.toInt32), (5, .int (nI 1))]) C (by decide) [1, 2, 3, 4, 0] dX1_readFrom_60 rfl ?_
        exact zm_loc [0, 1, 3, 4] rfl w
    · replace w := w.2 z
      exact zm_return C Rt (by show nc ≤ 0; omega) (by show ns ≤ 0; omega) dX1_readFrom_36 w
  · replace w := w.2 z
    refine zm_lload_n C rfl 2 rfl dX1_readFrom_16 ?_
    refine zm_ldc2 (v := lN 2000) C (zm_inG (by decide +kernel) rfl) dX1_readFrom_17 ?_
    refine zm_lcmp C dX1_readFrom_20 ?_
    refine zm_if_le (tgt := 29) C dX1_readFrom_21 (by decide) (fun z => ?_) (fun z => ?_)
    · replace w := w.1 z
      refine zm_aload_n C rfl 1 rfl dX1_readFrom_29 ?_
      obtain ⟨wr, w⟩ := w
      refine zm_Vi (As := []) (rest := []) C M_X7_failed sv_X1_91 rfl dX1_readFrom_30 rfl (Nat.le_of_ble_eq_true rfl) (by decide) (by decide) (by show nc + 0 ≤ 0; omega) (by show ns + 0 ≤ 0; omega) wr w (fun v6 h8 w => ?_)
      refine zm_if_eq (tgt := 37) C dX1_readFrom_33 (by decide) (fun z => ?_) (fun z => ?_)
      · replace w := w.1 z
        refine zm_lload_n C rfl 2 rfl dX1_readFrom_37 ?_
        refine zm_l2i C dX1_readFrom_38 ?_
        refine zm_istore (L' := [(0, .ref a0), (1, .ref a1), (2, .long v1), (4, .int v1.toInt32)]) C (by decide) [1, 2, 3, 0] dX1_readFrom_39 rfl ?_
        refine zm_iload C 3 rfl dX1_readFrom_41 ?_
        refine zm_if_le (tgt := 59) C dX1_readFrom_43 (by decide) (fun z => ?_) (fun z => ?_)
        · replace w := w.1 z
          refine zm_iconst (v := nI 1) C (by decide) dX1_readFrom_59 ?_
          refine zm_istore (L' := [(0, .ref a0), (1, .ref a1), (2, .long v1), (4, .int v1.toInt32), (5, .int (nI 1))]) C (by decide) [1, 2, 3, 4, 0] dX1_readFrom_60 rfl ?_
          exact zm_loc [0, 1, 3, 4] rfl w
        · replace w := w.2 z
          refine zm_aload_n C rfl 0 rfl dX1_readFrom_46 ?_
          refine zm_getR C ff_X1_9 dX1_readFrom_47 w (fun v7 w => ?_)
          refine zm_iconst (v := nI 0) C (by decide) dX1_readFrom_50 ?_
          refine zm_aload_n C rfl 1 rfl dX1_readFrom_51 ?_
          obtain ⟨wr, w⟩ := w
          refine zm_Vl (As := []) (rest := [.int (nI 0), .ref v7]) C M_X7_varint sv_X1_80 rfl dX1_readFrom_52 rfl (Nat.le_of_ble_eq_true rfl) (by decide) (by decide) (by show nc + 0 ≤ 0; omega) (by show ns + 0 ≤ 0; omega) wr w (fun v8 h9 w => ?_)
          refine zm_Sl (As := [.long v8]) (rest := [.int (nI 0), .ref v7]) C M_X1_unzigzag ss_X1_95 rfl dX1_readFrom_55 rfl (Nat.le_of_ble_eq_true rfl) (by decide) (by decide) (by show nc + 0 ≤ 0; omega) (by show ns + 0 ≤ 0; omega) w (fun v9 h10 w => ?_)
          refine zm_stL C dX1_readFrom_58 w (fun h11 w => ?_)
          refine zm_iconst (v := nI 1) C (by decide) dX1_readFrom_59 ?_
          refine zm_istore (L' := [(0, .ref a0), (1, .ref a1), (2, .long v1), (4, .int v1.toInt32), (5, .int (nI 1))]) C (by decide) [1, 2, 3, 4, 0] dX1_readFrom_60 rfl ?_
          exact zm_loc [0, 1, 3, 4] rfl w
      · replace w := w.2 z
        exact zm_return C Rt (by show nc ≤ 0; omega) (by show ns ≤ 0; omega) dX1_readFrom_36 w
    · replace w := w.2 z
      refine zm_aload_n C rfl 1 rfl dX1_readFrom_24 ?_
      refine zm_iconst (v := nI 4) C (by decide) dX1_readFrom_25 ?_
      obtain ⟨wr, w⟩ := w
      refine zm_Vv (As := [.int (nI 4)]) (rest := []) C M_X7_fail sv_X1_88 rfl dX1_readFrom_26 rfl (Nat.le_of_ble_eq_true rfl) (by decide) (by decide) (by show nc + 0 ≤ 0; omega) (by show ns + 0 ≤ 0; omega) wr w (fun h12 w => ?_)
      refine zm_aload_n C rfl 1 rfl dX1_readFrom_29 ?_
      obtain ⟨wr, w⟩ := w
      refine zm_Vi (As := []) (rest := []) C M_X7_failed sv_X1_91 rfl dX1_readFrom_30 rfl (Nat.le_of_ble_eq_true rfl) (by decide) (by decide) (by show nc + 0 ≤ 0; omega) (by show ns + 0 ≤ 0; omega) wr w (fun v10 h13 w => ?_)
      refine zm_if_eq (tgt := 37) C dX1_readFrom_33 (by decide) (fun z => ?_) (fun z => ?_)
      · replace w := w.1 z
        refine zm_lload_n C rfl 2 rfl dX1_readFrom_37 ?_
        refine zm_l2i C dX1_readFrom_38 ?_
        refine zm_istore (L' := [(0, .ref a0), (1, .ref a1), (2, .long v1), (4, .int v1.toInt32)]) C (by decide) [1, 2, 3, 0] dX1_readFrom_39 rfl ?_
        refine zm_iload C 3 rfl dX1_readFrom_41 ?_
        refine zm_if_le (tgt := 59) C dX1_readFrom_43 (by decide) (fun z => ?_) (fun z => ?_)
        · replace w := w.1 z
          refine zm_iconst (v := nI 1) C (by decide) dX1_readFrom_59 ?_
          refine zm_istore (L' := [(0, .ref a0), (1, .ref a1), (2, .long v1), (4, .int v1.toInt32), (5, .int (nI 1))]) C (by decide) [1, 2, 3, 4, 0] dX1_readFrom_60 rfl ?_
          exact zm_loc [0, 1, 3, 4] rfl w
        · replace w := w.2 z
          refine zm_aload_n C rfl 0 rfl dX1_readFrom_46 ?_
          refine zm_getR C ff_X1_9 dX1_readFrom_47 w (fun v11 w => ?_)
          refine zm_iconst (v := nI 0) C (by decide) dX1_readFrom_50 ?_
          refine zm_aload_n C rfl 1 rfl dX1_readFrom_51 ?_
          obtain ⟨wr, w⟩ := w
          refine zm_Vl (As := []) (rest := [.int (nI 0), .ref v11]) C M_X7_varint sv_X1_80 rfl dX1_readFrom_52 rfl (Nat.le_of_ble_eq_true rfl) (by decide) (by decide) (by show nc + 0 ≤ 0; omega) (by show ns + 0 ≤ 0; omega) wr w (fun v12 h14 w => ?_)
          refine zm_Sl (As := [.long v12]) (rest := [.int (nI 0), .ref v11]) C M_X1_unzigzag ss_X1_95 rfl dX1_readFrom_55 rfl (Nat.le_of_ble_eq_true rfl) (by decide) (by decide) (by show nc + 0 ≤ 0; omega) (by show ns + 0 ≤ 0; omega) w (fun v13 h15 w => ?_)
          refine zm_stL C dX1_readFrom_58 w (fun h16 w => ?_)
          refine zm_iconst (v := nI 1) C (by decide) dX1_readFrom_59 ?_
          refine zm_istore (L' := [(0, .ref a0), (1, .ref a1), (2, .long v1), (4, .int v1.toInt32), (5, .int (nI 1))]) C (by decide) [1, 2, 3, 4, 0] dX1_readFrom_60 rfl ?_
          exact zm_loc [0, 1, 3, 4] rfl w
      · replace w := w.2 z
        exact zm_return C Rt (by show nc ≤ 0; omega) (by show ns ≤ 0; omega) dX1_readFrom_36 w
set_option maxRecDepth 20000 in
theorem B_X1_readFrom_62 {E : zm_E} {K : zm_K} {Post : zm_Po} {nc ns : Nat} (C : zm_Cx E K cX1_readFrom RX1 5 96 0 0 6) (Rt : zm_Rt E Post 0 0 none) {a0 : Nat} {a1 : Nat} {i4 : Int32} {i5 : Int32} {h : zm_H} (hnc : nc ≤ 0) (hns : ns ≤ 0) (w : (i4 ≤ i5 → zm_rc h a1 7 ∧ zm_cv K M_X7_expectEnd [.ref a1] h fun h1 => zm_pf h1 a0 1 2 (.int i4) fun h2 => Post none h2) ∧ (¬ i4 ≤ i5 → zm_rc h a1 7 ∧ zm_ci K M_X7_failed [.ref a1] h fun v1 h3 => (¬ v1 = 0 → zm_rc h3 a1 7 ∧ zm_cv K M_X7_expectEnd [.ref a1] h3 fun h4 => zm_pf h4 a0 1 2 (.int i4) fun h5 => Post none h5) ∧ (v1 = 0 → zm_rc h3 a0 1 ∧ zm_cv K M_X1_readBlock [.ref a0, .ref a1, .int i5, .int (if i5 + (nI 64) < i4 then i5 + (nI 64) else i4)] h3 fun h6 => zm_Go E nc ns 62 [(0, .ref a0), (1, .ref a1), (4, .int i4), (5, .int (i5 + (nI 64)))] [] h6))) : zm_Go E nc ns 62 [(0, .ref a0), (1, .ref a1), (4, .int i4), (5, .int i5)] [] h := by
  refine zm_iload C 3 rfl dX1_readFrom_62 ?_
  refine zm_iload C 2 rfl dX1_readFrom_64 ?_
  refine zm_icmp_ge (tgt := 99) C dX1_readFrom_66 (by decide) (fun z => ?_) (fun z => ?_)
  · replace w := w.1 z
    refine zm_aload_n C rfl 1 rfl dX1_readFrom_99 ?_
    obtain ⟨wr, w⟩ := w
    refine zm_Vv (As := []) (rest := []) C M_X7_expectEnd sv_X1_102 rfl dX1_readFrom_100 rfl (Nat.le_of_ble_eq_true rfl) (by decide) (by decide) (by show nc + 0 ≤ 0; omega) (by show ns + 0 ≤ 0; omega) wr w (fun h1 w => ?_)
    refine zm_aload_n C rfl 0 rfl dX1_readFrom_103 ?_
    refine zm_iload C 2 rfl dX1_readFrom_104 ?_
    refine zm_put C ff_X1_19 ft_X1 fp_X1_1_2 rfl rfl dX1_readFrom_106 w (fun h2 w => ?_)
    exact zm_return C Rt (by show nc ≤ 0; omega) (by show ns ≤ 0; omega) dX1_readFrom_109 w
  · replace w := w.2 z
    refine zm_aload_n C rfl 1 rfl dX1_readFrom_69 ?_
    obtain ⟨wr, w⟩ := w
    refine zm_Vi (As := []) (rest := []) C M_X7_failed sv_X1_91 rfl dX1_readFrom_70 rfl (Nat.le_of_ble_eq_true rfl) (by decide) (by decide) (by show nc + 0 ≤ 0; omega) (by show ns + 0 ≤ 0; omega) wr w (fun v1 h3 w => ?_)
    refine zm_if_ne (tgt := 99) C dX1_readFrom_73 (by decide) (fun z => ?_) (fun z => ?_)
    · replace w := w.1 z
      refine zm_aload_n C rfl 1 rfl dX1_readFrom_99 ?_
      obtain ⟨wr, w⟩ := w
      refine zm_Vv (As := []) (rest := []) C M_X7_expectEnd sv_X1_102 rfl dX1_readFrom_100 rfl (Nat.le_of_ble_eq_true rfl) (by decide) (by decide) (by show nc + 0 ≤ 0; omega) (by show ns + 0 ≤ 0; omega) wr w (fun h4 w => ?_)
      refine zm_aload_n C rfl 0 rfl dX1_readFrom_103 ?_
      refine zm_iload C 2 rfl dX1_readFrom_104 ?_
      refine zm_put C ff_X1_19 ft_X1 fp_X1_1_2 rfl rfl dX1_readFrom_106 w (fun h5 w => ?_)
      exact zm_return C Rt (by show nc ≤ 0; omega) (by show ns ≤ 0; omega) dX1_readFrom_109 w
    · replace w := w.2 z
      refine zm_aload_n C rfl 0 rfl dX1_readFrom_76 ?_
      refine zm_aload_n C rfl 1 rfl dX1_readFrom_77 ?_
      refine zm_iload C 3 rfl dX1_readFrom_78 ?_
      refine zm_iload C 2 rfl dX1_readFrom_80 ?_
      refine zm_iload C 3 rfl dX1_readFrom_82 ?_
      refine zm_bipush (v := nI 64) C (by decide) dX1_readFrom_84 ?_
      refine zm_iadd C dX1_readFrom_86 ?_
      refine zm_mmin C (zm_inG (by decide +kernel) rfl) (zm_inG (by decide +kernel) rfl) (zm_inG (by decide +kernel) rfl) zi_min (by decide) (by decide) (Nat.le_of_ble_eq_true rfl) (by show nc ≤ 0; omega) (by show ns ≤ 0; omega) dX1_readFrom_87 ?_
      obtain ⟨wr, w⟩ := w
      refine zm_Vv (As := [.ref a1, .int i5, .int (if i5 + (nI 64) < i4 then i5 + (nI 64) else i4)]) (rest := []) C M_X1_readBlock sv_X1_98 rfl dX1_readFrom_90 rfl (Nat.le_of_ble_eq_true rfl) (by decide) (by decide) (by show nc + 0 ≤ 0; omega) (by show ns + 0 ≤ 0; omega) wr w (fun h6 w => ?_)
      refine zm_iinc (L' := [(0, .ref a0), (1, .ref a1), (4, .int i4), (5, .int (i5 + (nI 64)))]) C (by decide) 3 [1, 2, 3, 0] dX1_readFrom_93 rfl rfl rfl ?_
      refine zm_goto (tgt := 62) C dX1_readFrom_96 (by decide) ?_
      exact w
set_option maxRecDepth 20000 in
theorem B_X1_readBlock_0 {E : zm_E} {K : zm_K} {Post : zm_Po} {nc ns : Nat} (C : zm_Cx E K cX1_readBlock RX1 4 68 0 0 9) (Rt : zm_Rt E Post 0 0 none) {a0 : Nat} {a1 : Nat} {i2 : Int32} {i3 : Int32} {h : zm_H} (hnc : nc ≤ 0) (hns : ns ≤ 0) (w : zm_rc h a1 7 ∧ zm_cl K M_X7_varint [.ref a1] h fun v1 h1 => zm_cl K M_X1_unzigzag [.long v1] h1 fun v2 h2 => zm_Go E nc ns 12 [(0, .ref a0), (1, .ref a1), (2, .int i2), (3, .int i3), (4, .long v2), (6, .int (nI 0))] [] h2) : zm_Go E nc ns 0 [(0, .ref a0), (1, .ref a1), (2, .int i2), (3, .int i3)] [] h := by
  refine zm_aload_n C rfl 1 rfl dX1_readBlock_0 ?_
  obtain ⟨wr, w⟩ := w
  refine zm_Vl (As := []) (rest := []) C M_X7_varint sv_X1_80 rfl dX1_readBlock_1 rfl (Nat.le_of_ble_eq_true rfl) (by decide) (by decide) (by show nc + 0 ≤ 0; omega) (by show ns + 0 ≤ 0; omega) wr w (fun v1 h1 w => ?_)
  refine zm_Sl (As := [.long v1]) (rest := []) C M_X1_unzigzag ss_X1_95 rfl dX1_readBlock_4 rfl (Nat.le_of_ble_eq_true rfl) (by decide) (by decide) (by show nc + 0 ≤ 0; omega) (by show ns + 0 ≤ 0; omega) w (fun v2 h2 w => ?_)
  refine zm_lstore (L' := [(0, .ref a0), (1, .ref a1), (2, .int i2), (3, .int i3), (4, .long v2)]) C (by decide) [1, 2, 3, 4, 0] dX1_readBlock_7 rfl ?_
  refine zm_iconst (v := nI 0) C (by decide) dX1_readBlock_9 ?_
  refine zm_istore (L' := [(0, .ref a0), (1, .ref a1), (2, .int i2), (3, .int i3), (4, .long v2), (6, .int (nI 0))]) C (by decide) [1, 2, 3, 4, 5, 0] dX1_readBlock_10 rfl ?_
  exact w
set_option maxRecDepth 20000 in
theorem B_X1_readBlock_12 {E : zm_E} {K : zm_K} {Post : zm_Po} {nc ns : Nat} (C : zm_Cx E K cX1_readBlock RX1 4 68 0 0 9) (Rt : zm_Rt E Post 0 0 none) {a0 : Nat} {a1 : Nat} {i2 : Int32} {i3 : Int32} {l4 : Int64} {i6 : Int32} {h : zm_H} (hnc : nc ≤ 0) (hns : ns ≤ 0) (w : ((nI 4) ≤ i6 → zm_Go E nc ns 89 [(0, .ref a0), (1, .ref a1), (2, .int i2), (3, .int i3), (4, .long l4), (6, .int (nI 0))] [] h) ∧ (¬ (nI 4) ≤ i6 → zm_rc h a1 7 ∧ zm_ci K M_X7_failed [.ref a1] h fun v1 h1 => (¬ v1 = 0 → zm_Go E nc ns 89 [(0, .ref a0), (1, .ref a1), (2, .int i2), (3, .int i3), (4, .long l4), (6, .int (nI 0))] [] h1) ∧ (v1 = 0 → zm_rc h1 a1 7 ∧ zm_ci K M_X7_nextByte [.ref a1] h1 fun v2 h2 => ((i2 + (i6 * (nI 16))) < i3 → ((nI 64) < v2 → zm_rc h2 a1 7 ∧ zm_cv K M_X7_fail [.ref a1, .int (nI 5)] h2 fun h3 => zm_gR h3 a0 1 1 fun v3 => zm_sI K h3 v3 i6 v2 fun h4 => zm_Go E nc ns 12 [(0, .ref a0), (1, .ref a1), (2, .int i2), (3, .int i3), (4, .long l4), (6, .int (i6 + (nI 1)))] [] h4) ∧ (¬ (nI 64) < v2 → ((nI 0) = 0 → zm_gR h2 a0 1 1 fun v4 => zm_sI K h2 v4 i6 v2 fun h5 => zm_Go E nc ns 12 [(0, .ref a0), (1, .ref a1), (2, .int i2), (3, .int i3), (4, .long l4), (6, .int (i6 + (nI 1)))] [] h5) ∧ (¬ (nI 0) = 0 → (v2 = 0 → zm_gR h2 a0 1 1 fun v5 => zm_sI K h2 v5 i6 v2 fun h6 => zm_Go E nc ns 12 [(0, .ref a0), (1, .ref a1), (2, .int i2), (3, .int i3), (4, .long l4), (6, .int (i6 + (nI 1)))] [] h6) ∧ (¬ v2 = 0 → zm_rc h2 a1 7 ∧ zm_cv K M_X7_fail [.ref a1, .int (nI 5)] h2 fun h7 => zm_gR h7 a0 1 1 fun v6 => zm_sI K h7 v6 i6 v2 fun h8 => zm_Go E nc ns 12 [(0, .ref a0), (1, .ref a1), (2, .int i2), (3, .int i3), (4, .long l4), (6, .int (i6 + (nI 1)))] [] h8)))) ∧ (¬ (i2 + (i6 * (nI 16))) < i3 → ((nI 64) < v2 → zm_rc h2 a1 7 ∧ zm_cv K M_X7_fail [.ref a1, .int (nI 5)] h2 fun h9 => zm_gR h9 a0 1 1 fun v7 => zm_sI K h9 v7 i6 v2 fun h10 => zm_Go E nc ns 12 [(0, .ref a0), (1, .ref a1), (2, .int i2), (3, .int i3), (4, .long l4), (6, .int (i6 + (nI 1)))] [] h10) ∧ (¬ (nI 64) < v2 → ((nI 1) = 0 → zm_gR h2 a0 1 1 fun v8 => zm_sI K h2 v8 i6 v2 fun h11 => zm_Go E nc ns 12 [(0, .ref a0), (1, .ref a1), (2, .int i2), (3, .int i3), (4, .long l4), (6, .int (i6 + (nI 1)))] [] h11) ∧ (¬ (nI 1) = 0 → (v2 = 0 → zm_gR h2 a0 1 1 fun v9 => zm_sI K h2 v9 i6 v2 fun h12 => zm_Go E nc ns 12 [(0, .ref a0), (1, .ref a1), (2, .int i2), (3, .int i3), (4, .long l4), (6, .int (i6 + (nI 1)))] [] h12) ∧ (¬ v2 = 0 → zm_rc h2 a1 7 ∧ zm_cv K M_X7_fail [.ref a1, .int (nI 5)] h2 fun h13 => zm_gR h13 a0 1 1 fun v10 => zm_sI K h13 v10 i6 v2 fun h14 => zm_Go E nc ns 12 [(0, .ref a0), (1, .ref a1), (2, .int i2), (3, .int i3), (4, .long l4), (6, .int (i6 + (nI 1)))] [] h14))))))) : zm_Go E nc ns 12 [(0, .ref a0), (1, .ref a1), (2, .int i2), (3, .int i3), (4, .long l4), (6, .int i6)] [] h := by
  refine zm_iload C 5 rfl dX1_readBlock_12 ?_
  refine zm_iconst (v := nI 4) C (by decide) dX1_readBlock_14 ?_
  refine zm_icmp_ge (tgt := 86) C dX1_readBlock_15 (by decide) (fun z => ?_) (fun z => ?_)
  · replace w := w.1 z
    refine zm_iconst (v := nI 0) C (by decide) dX1_readBlock_86 ?_
    refine zm_istore (L' := [(0, .ref a0), (1, .ref a1), (2, .int i2), (3, .int i3), (4, .long l4), (6, .int (nI 0))]) C (by decide) [1, 2, 3, 4, 5, 0] dX1_readBlock_87 rfl ?_
    exact w
  · replace w := w.2 z
    refine zm_aload_n C rfl 1 rfl dX1_readBlock_18 ?_
    obtain ⟨wr, w⟩ := w
    refine zm_Vi (As := []) (rest := []) C M_X7_failed sv_X1_91 rfl dX1_readBlock_19 rfl (Nat.le_of_ble_eq_true rfl) (by decide) (by decide) (by show nc + 0 ≤ 0; omega) (by show ns + 0 ≤ 0; omega) wr w (fun v1 h1 w => ?_)
    refine zm_if_ne (tgt := 86) C dX1_readBlock_22 (by decide) (fun z => ?_) (fun z => ?_)
    · replace w := w.1 z
      refine zm_iconst (v := nI 0) C (by decide) dX1_readBlock_86 ?_
      refine zm_istore (L' := [(0, .ref a0), (1, .ref a1), (2, .int i2), (3, .int i3), (4, .long l4), (6, .int (nI 0))]) C (by decide) [1, 2, 3, 4, 5, 0] dX1_readBlock_87 rfl ?_
      exact w
    · replace w := w.2 z
      refine zm_aload_n C rfl 1 rfl dX1_readBlock_25 ?_
      obtain ⟨wr, w⟩ := w
      refine zm_Vi (As := []) (rest := []) C M_X7_nextByte sv_X1_105 rfl dX1_readBlock_26 rfl (Nat.le_of_ble_eq_true rfl) (by decide) (by decide) (by show nc + 0 ≤ 0; omega) (by show ns + 0 ≤ 0; omega) wr w (fun v2 h2 w => ?_)
      refine zm_istore (L' := [(0, .ref a0), (1, .ref a1), (2, .int i2), (3, .int i3), (4, .long l4), (6, .int i6), (7, .int v2)]) C (by decide) [1, 2, 3, 4, 5, 6, 0] dX1_readBlock_29 rfl ?_
      refine zm_iload_n C rfl 2 rfl dX1_readBlock_31 ?_
      refine zm_iload C 5 rfl dX1_readBlock_32 ?_
      refine zm_bipush (v := nI 16) C (by decide) dX1_readBlock_34 ?_
      refine zm_imul C dX1_readBlock_36 ?_
      refine zm_iadd C dX1_readBlock_37 ?_
      refine zm_iload_n C rfl 3 rfl dX1_readBlock_38 ?_
      refine zm_icmp_lt (tgt := 46) C dX1_readBlock_39 (by decide) (fun z => ?_) (fun z => ?_)
      · replace w := w.1 z
        refine zm_iconst (v := nI 0) C (by decide) dX1_readBlock_46 ?_
        refine zm_istore (L' := [(0, .ref a0), (1, .ref a1), (2, .int i2), (3, .int i3), (4, .long l4), (6, .int i6), (7, .int v2), (8, .int (nI 0))]) C (by decide) [1, 2, 3, 4, 5, 6, 7, 0] dX1_readBlock_47 rfl ?_
        refine zm_iload C 6 rfl dX1_readBlock_49 ?_
        refine zm_bipush (v := nI 64) C (by decide) dX1_readBlock_51 ?_
        refine zm_icmp_gt (tgt := 66) C dX1_readBlock_53 (by decide) (fun z => ?_) (fun z => ?_)
        · replace w := w.1 z
          refine zm_aload_n C rfl 1 rfl dX1_readBlock_66 ?_
          refine zm_iconst (v := nI 5) C (by decide) dX1_readBlock_67 ?_
          obtain ⟨wr, w⟩ := w
          refine zm_Vv (As := [.int (nI 5)]) (rest := []) C M_X7_fail sv_X1_88 rfl dX1_readBlock_68 rfl (Nat.le_of_ble_eq_true rfl) (by decide) (by decide) (by show nc + 0 ≤ 0; omega) (by show ns + 0 ≤ 0; omega) wr w (fun h3 w => ?_)
          refine zm_aload_n C rfl 0 rfl dX1_readBlock_71 ?_
          refine zm_getR C ff_X1_15 dX1_readBlock_72 w (fun v3 w => ?_)
          refine zm_iload C 5 rfl dX1_readBlock_75 ?_
          refine zm_iload C 6 rfl dX1_readBlock_77 ?_
          refine zm_stI C dX1_readBlock_79 w (fun h4 w => ?_)
          refine zm_iinc (L' := [(0, .ref a0), (1, .ref a1), (2, .int i2), (3, .int i3), (4, .long l4), (6, .int (i6 + (nI 1))), (7, .int v2), (8, .int (nI 0))]) C (by decide) 5 [1, 2, 3, 4, 5, 0, 6, 7] dX1_readBlock_80 rfl rfl rfl ?_
          refine zm_goto (tgt := 12) C dX1_readBlock_83 (by decide) ?_
          exact zm_loc [0, 1, 2, 3, 4, 5] rfl w
        · replace w := w.2 z
          refine zm_iload C 7 rfl dX1_readBlock_56 ?_
          refine zm_if_eq (tgt := 71) C dX1_readBlock_58 (by decide) (fun z => ?_) (fun z => ?_)
          · replace w := w.1 z
            refine zm_aload_n C rfl 0 rfl dX1_readBlock_71 ?_
            refine zm_getR C ff_X1_15 dX1_readBlock_72 w (fun v4 w => ?_)
            refine zm_iload C 5 rfl dX1_readBlock_75 ?_
            refine zm_iload C 6 rfl dX1_readBlock_77 ?_
            refine zm_stI C dX1_readBlock_79 w (fun h5 w => ?_)
            refine zm_iinc (L' := [(0, .ref a0), (1, .ref a1), (2, .int i2), (3, .int i3), (4, .long l4), (6, .int (i6 + (nI 1))), (7, .int v2), (8, .int (nI 0))]) C (by decide) 5 [1, 2, 3, 4, 5, 0, 6, 7] dX1_readBlock_80 rfl rfl rfl ?_
            refine zm_goto (tgt := 12) C dX1_readBlock_83 (by decide) ?_
            exact zm_loc [0, 1, 2, 3, 4, 5] rfl w
          · replace w := w.2 z
            refine zm_iload C 6 rfl dX1_readBlock_61 ?_
            refine zm_if_eq (tgt := 71) C dX1_readBlock_63 (by decide) (fun z => ?_) (fun z => ?_)
            · replace w := w.1 z
              refine zm_aload_n C rfl 0 rfl dX1_readBlock_71 ?_
              refine zm_getR C ff_X1_15 dX1_readBlock_72 w (fun v5 w => ?_)
              refine zm_iload C 5 rfl dX1_readBlock_75 ?_
              refine zm_iload C 6 rfl dX1_readBlock_77 ?_
              refine zm_stI C dX1_readBlock_79 w (fun h6 w => ?_)
              refine zm_iinc (L' := [(0, .ref a0), (1, .ref a1), (2, .int i2), (3, .int i3), (4, .long l4), (6, .int (i6 + (nI 1))), (7, .int v2), (8, .int (nI 0))]) C (by decide) 5 [1, 2, 3, 4, 5, 0, 6, 7] dX1_readBlock_80 rfl rfl rfl ?_
              refine zm_goto (tgt := 12) C dX1_readBlock_83 (by decide) ?_
              exact zm_loc [0, 1, 2, 3, 4, 5] rfl w
            · replace w := w.2 z
              refine zm_aload_n C rfl 1 rfl dX1_readBlock_66 ?_
              refine zm_iconst (v := nI 5) C (by decide) dX1_readBlock_67 ?_
              obtain ⟨wr, w⟩ := w
              refine zm_Vv (As := [.int (nI 5)]) (rest := []) C M_X7_fail sv_X1_88 rfl dX1_readBlock_68 rfl (Nat.le_of_ble_eq_true rfl) (by decide) (by decide) (by show nc + 0 ≤ 0; omega) (by show ns + 0 ≤ 0; omega) wr w (fun h7 w => ?_)
              refine zm_aload_n C rfl 0 rfl dX1_readBlock_71 ?_
              refine zm_getR C ff_X1_15 dX1_readBlock_72 w (fun v6 w => ?_)
              refine zm_iload C 5 rfl dX1_readBlock_75 ?_
              refine zm_iload C 6 rfl dX1_readBlock_77 ?_
              refine zm_stI C dX1_readBlock_79 w (fun h8 w => ?_)
              refine zm_iinc (L' := [(0, .ref a0), (1, .ref a1), (2, .int i2), (3, .int i3), (4, .long l4), (6, .int (i6 + (nI 1))), (7, .int v2), (8, .int (nI 0))]) C (by decide) 5 [1, 2, 3, 4, 5, 0, 6, 7] dX1_readBlock_80 rfl rfl rfl ?_
              refine zm_goto (tgt := 12) C dX1_readBlock_83 (by decide) ?_
              exact zm_loc [0, 1, 2, 3, 4, 5] rfl w
      · replace w := w.2 z
        refine zm_iconst (v := nI 1) C (by decide) dX1_readBlock_42 ?_
        refine zm_goto (tgt := 47) C dX1_readBlock_43 (by decide) ?_
        refine zm_istore (L' := [(0, .ref a0), (1, .ref a1), (2, .int i2), (3, .int i3), (4, .long l4), (6, .int i6), (7, .int v2), (8, .int (nI 1))]) C (by decide) [1, 2, 3, 4, 5, 6, 7, 0] dX1_readBlock_47 rfl ?_
        refine zm_iload C 6 rfl dX1_readBlock_49 ?_
        refine zm_bipush (v := nI 64) C (by decide) dX1_readBlock_51 ?_
        refine zm_icmp_gt (tgt := 66) C dX1_readBlock_53 (by decide) (fun z => ?_) (fun z => ?_)
        · replace w := w.1 z
          refine zm_aload_n C rfl 1 rfl dX1_readBlock_66 ?_
          refine zm_iconst (v := nI 5) C (by decide) dX1_readBlock_67 ?_
          obtain ⟨wr, w⟩ := w
          refine zm_Vv (As := [.int (nI 5)]) (rest := []) C M_X7_fail sv_X1_88 rfl dX1_readBlock_68 rfl (Nat.le_of_ble_eq_true rfl) (by decide) (by decide) (by show nc + 0 ≤ 0; omega) (by show ns + 0 ≤ 0; omega) wr w (fun h9 w => ?_)
          refine zm_aload_n C rfl 0 rfl dX1_readBlock_71 ?_
          refine zm_getR C ff_X1_15 dX1_readBlock_72 w (fun v7 w => ?_)
          refine zm_iload C 5 rfl dX1_readBlock_75 ?_
          refine zm_iload C 6 rfl dX1_readBlock_77 ?_
          refine zm_stI C dX1_readBlock_79 w (fun h10 w => ?_)
          refine zm_iinc (L' := [(0, .ref a0), (1, .ref a1), (2, .int i2), (3, .int i3), (4, .long l4), (6, .int (i6 + (nI 1))), (7, .int v2), (8, .int (nI 1))]) C (by decide) 5 [1, 2, 3, 4, 5, 0, 6, 7] dX1_readBlock_80 rfl rfl rfl ?_
          refine zm_goto (tgt := 12) C dX1_readBlock_83 (by decide) ?_
          exact zm_loc [0, 1, 2, 3, 4, 5] rfl w
        · replace w := w.2 z
          refine zm_iload C 7 rfl dX1_readBlock_56 ?_
          refine zm_if_eq (tgt := 71) C dX1_readBlock_58 (by decide) (fun z => ?_) (fun z => ?_)
          · replace w := w.1 z
            refine zm_aload_n C rfl 0 rfl dX1_readBlock_71 ?_
            refine zm_getR C ff_X1_15 dX1_readBlock_72 w (fun v8 w => ?_)
            refine zm_iload C 5 rfl dX1_readBlock_75 ?_
            refine zm_iload C 6 rfl dX1_readBlock_77 ?_
            refine zm_stI C dX1_readBlock_79 w (fun h11 w => ?_)
            refine zm_iinc (L' := [(0, .ref a0), (1, .ref a1), (2, .int i2), (3, .int i3), (4, .long l4), (6, .int (i6 + (nI 1))), (7, .int v2), (8, .int (nI 1))]) C (by decide) 5 [1, 2, 3, 4, 5, 0, 6, 7] dX1_readBlock_80 rfl rfl rfl ?_
            refine zm_goto (tgt := 12) C dX1_readBlock_83 (by decide) ?_
            exact zm_loc [0, 1, 2, 3, 4, 5] rfl w
          · replace w := w.2 z
            refine zm_iload C 6 rfl dX1_readBlock_61 ?_
            refine zm_if_eq (tgt := 71) C dX1_readBlock_63 (by decide) (fun z => ?_) (fun z => ?_)
            · replace w := w.1 z
              refine zm_aload_n C rfl 0 rfl dX1_readBlock_71 ?_
              refine zm_getR C ff_X1_15 dX1_readBlock_72 w (fun v9 w => ?_)
              refine zm_iload C 5 rfl dX1_readBlock_75 ?_
              refine zm_iload C 6 rfl dX1_readBlock_77 ?_
              refine zm_stI C dX1_readBlock_79 w (fun h12 w => ?_)
              refine zm_iinc (L' := [(0, .ref a0), (1, .ref a1), (2, .int i2), (3, .int i3), (4, .long l4), (6, .int (i6 + (nI 1))), (7, .int v2), (8, .int (nI 1))]) C (by decide) 5 [1, 2, 3, 4, 5, 0, 6, 7] dX1_readBlock_80 rfl rfl rfl ?_
              refine zm_goto (tgt := 12) C dX1_readBlock_83 (by decide) ?_
              exact zm_loc [0, 1, 2, 3, 4, 5] rfl w
            · replace w := w.2 z
              refine zm_aload_n C rfl 1 rfl dX1_readBlock_66 ?_
              refine zm_iconst (v := nI 5) C (by decide) dX1_readBlock_67 ?_
              obtain ⟨wr, w⟩ := w
              refine zm_Vv (As := [.int (nI 5)]) (rest := []) C M_X7_fail sv_X1_88 rfl dX1_readBlock_68 rfl (Nat.le_of_ble_eq_true rfl) (by decide) (by decide) (by show nc + 0 ≤ 0; omega) (by show ns + 0 ≤ 0; omega) wr w (fun h13 w => ?_)
              refine zm_aload_n C rfl 0 rfl dX1_readBlock_71 ?_
              refine zm_getR C ff_X1_15 dX1_readBlock_72 w (fun v10 w => ?_)
              refine zm_iload C 5 rfl dX1_readBlock_75 ?_
              refine zm_iload C 6 rfl dX1_readBlock_77 ?_
              refine zm_stI C dX1_readBlock_79 w (fun h14 w => ?_)
              refine zm_iinc (L' := [(0, .ref a0), (1, .ref a1), (2, .int i2), (3, .int i3), (4, .long l4), (6, .int (i6 + (nI 1))), (7, .int v2), (8, .int (nI 1))]) C (by decide) 5 [1, 2, 3, 4, 5, 0, 6, 7] dX1_readBlock_80 rfl rfl rfl ?_
              refine zm_goto (tgt := 12) C dX1_readBlock_83 (by decide) ?_
              exact zm_loc [0, 1, 2, 3, 4, 5] rfl w
set_option maxRecDepth 20000 in
theorem B_X1_readBlock_89 {E : zm_E} {K : zm_K} {Post : zm_Po} {nc ns : Nat} (C : zm_Cx E K cX1_readBlock RX1 4 68 0 0 9) (Rt : zm_Rt E Post 0 0 none) {a0 : Nat} {a1 : Nat} {i2 : Int32} {i3 : Int32} {l4 : Int64} {i6 : Int32} {h : zm_H} (hnc : nc ≤ 0) (hns : ns ≤ 0) (w : ((nI 4) ≤ i6 → Post none h) ∧ (¬ (nI 4) ≤ i6 → zm_rc h a1 7 ∧ zm_ci K M_X7_failed [.ref a1] h fun v1 h1 => (¬ v1 = 0 → Post none h1) ∧ (v1 = 0 → zm_gR h1 a0 1 1 fun v2 => zm_ld K 1 h1 v2 i6 fun v3 => zm_rc h1 a0 1 ∧ zm_cv K M_X1_readPart [.ref a0, .ref a1, .int (i2 + (i6 * (nI 16))), .int (if (i2 + (i6 * (nI 16))) + (nI 16) < i3 then (i2 + (i6 * (nI 16))) + (nI 16) else i3), .int v3, .long l4] h1 fun h2 => zm_Go E nc ns 89 [(0, .ref a0), (1, .ref a1), (2, .int i2), (3, .int i3), (4, .long l4), (6, .int (i6 + (nI 1)))] [] h2))) : zm_Go E nc ns 89 [(0, .ref a0), (1, .ref a1), (2, .int i2), (3, .int i3), (4, .long l4), (6, .int i6)] [] h := by
  refine zm_iload C 5 rfl dX1_readBlock_89 ?_
  refine zm_iconst (v := nI 4) C (by decide) dX1_readBlock_91 ?_
  refine zm_icmp_ge (tgt := 142) C dX1_readBlock_92 (by decide) (fun z => ?_) (fun z => ?_)
  · replace w := w.1 z
    exact zm_return C Rt (by show nc ≤ 0; omega) (by show ns ≤ 0; omega) dX1_readBlock_142 w
  · replace w := w.2 z
    refine zm_aload_n C rfl 1 rfl dX1_readBlock_95 ?_
    obtain ⟨wr, w⟩ := w
    refine zm_Vi (As := []) (rest := []) C M_X7_failed sv_X1_91 rfl dX1_readBlock_96 rfl (Nat.le_of_ble_eq_true rfl) (by decide) (by decide) (by show nc + 0 ≤ 0; omega) (by show ns + 0 ≤ 0; omega) wr w (fun v1 h1 w => ?_)
    refine zm_if_ne (tgt := 142) C dX1_readBlock_99 (by decide) (fun z => ?_) (fun z => ?_)
    · replace w := w.1 z
      exact zm_return C Rt (by show nc ≤ 0; omega) (by show ns ≤ 0; omega) dX1_readBlock_142 w
    · replace w := w.2 z
      refine zm_iload_n C rfl 2 rfl dX1_readBlock_102 ?_
      refine zm_iload C 5 rfl dX1_readBlock_103 ?_
      refine zm_bipush (v := nI 16) C (by decide) dX1_readBlock_105 ?_
      refine zm_imul C dX1_readBlock_107 ?_
      refine zm_iadd C dX1_readBlock_108 ?_
      refine zm_istore (L' := [(0, .ref a0), (1, .ref a1), (2, .int i2), (3, .int i3), (4, .long l4), (6, .int i6), (7, .int (i2 + (i6 * (nI 16))))]) C (by decide) [1, 2, 3, 4, 5, 6, 0] dX1_readBlock_109 rfl ?_
      refine zm_aload_n C rfl 0 rfl dX1_readBlock_111 ?_
      refine zm_aload_n C rfl 1 rfl dX1_readBlock_112 ?_
      refine zm_iload C 6 rfl dX1_readBlock_113 ?_
      refine zm_iload_n C rfl 3 rfl dX1_readBlock_115 ?_
      refine zm_iload C 6 rfl dX1_readBlock_116 ?_
      refine zm_bipush (v := nI 16) C (by decide) dX1_readBlock_118 ?_
      refine zm_iadd C dX1_readBlock_120 ?_
      refine zm_mmin C (zm_inG (by decide +kernel) rfl) (zm_inG (by decide +kernel) rfl) (zm_inG (by decide +kernel) rfl) zi_min (by decide) (by decide) (Nat.le_of_ble_eq_true rfl) (by show nc ≤ 0; omega) (by show ns ≤ 0; omega) dX1_readBlock_121 ?_
      refine zm_aload_n C rfl 0 rfl dX1_readBlock_124 ?_
      refine zm_getR C ff_X1_15 dX1_readBlock_125 w (fun v2 w => ?_)
      refine zm_iload C 5 rfl dX1_readBlock_128 ?_
      refine zm_ldI C dX1_readBlock_130 w (fun v3 w => ?_)
      refine zm_lload C 4 rfl dX1_readBlock_131 ?_
      obtain ⟨wr, w⟩ := w
      refine zm_Vv (As := [.ref a1, .int (i2 + (i6 * (nI 16))), .int (if (i2 + (i6 * (nI 16))) + (nI 16) < i3 then (i2 + (i6 * (nI 16))) + (nI 16) else i3), .int v3, .long l4]) (rest := []) C M_X1_readPart sv_X1_109 rfl dX1_readBlock_133 rfl (Nat.le_of_ble_eq_true rfl) (by decide) (by decide) (by show nc + 0 ≤ 0; omega) (by show ns + 0 ≤ 0; omega) wr w (fun h2 w => ?_)
      refine zm_iinc (L' := [(0, .ref a0), (1, .ref a1), (2, .int i2), (3, .int i3), (4, .long l4), (6, .int (i6 + (nI 1))), (7, .int (i2 + (i6 * (nI 16))))]) C (by decide) 5 [1, 2, 3, 4, 5, 0, 6] dX1_readBlock_136 rfl rfl rfl ?_
      refine zm_goto (tgt := 89) C dX1_readBlock_139 (by decide) ?_
      exact zm_loc [0, 1, 2, 3, 4, 5] rfl w
set_option maxRecDepth 20000 in
theorem B_X1_readPart_0 {E : zm_E} {K : zm_K} {Post : zm_Po} {nc ns : Nat} (C : zm_Cx E K cX1_readPart RX1 2 29 0 0 8) (Rt : zm_Rt E Post 0 0 none) {a0 : Nat} {a1 : Nat} {i2 : Int32} {i3 : Int32} {i4 : Int32} {l5 : Int64} {h : zm_H} (hnc : nc ≤ 0) (hns : ns ≤ 0) (w : zm_rc h a1 7 ∧ zm_ci K M_X7_holds [.ref a1, .long (((nI 2) * i4).toInt64)] h fun v1 h1 => (¬ v1 = 0 → zm_Go E nc ns 16 [(0, .ref a0), (1, .ref a1), (2, .int i2), (3, .int i3), (4, .int i4), (5, .long l5), (7, .int i2)] [] h1) ∧ (v1 = 0 → Post none h1)) : zm_Go E nc ns 0 [(0, .ref a0), (1, .ref a1), (2, .int i2), (3, .int i3), (4, .int i4), (5, .long l5)] [] h := by
  refine zm_aload_n C rfl 1 rfl dX1_readPart_0 ?_
  refine zm_iconst (v := nI 2) C (by decide) dX1_readPart_1 ?_
  refine zm_iload C 4 rfl dX1_readPart_2 ?_
  refine zm_imul C dX1_readPart_4 ?_
  refine zm_i2l C dX1_readPart_5 ?_
  obtain ⟨wr, w⟩ := w
  refine zm_Vi (As := [.long (((nI 2) * i4).toInt64)]) (rest := []) C M_X7_holds sv_X1_113 rfl dX1_readPart_6 rfl (Nat.le_of_ble_eq_true rfl) (by decide) (by decide) (by show nc + 0 ≤ 0; omega) (by show ns + 0 ≤ 0; omega) wr w (fun v1 h1 w => ?_)
  refine zm_if_ne (tgt := 13) C dX1_readPart_9 (by decide) (fun z => ?_) (fun z => ?_)
  · replace w := w.1 z
    refine zm_iload_n C rfl 2 rfl dX1_readPart_13 ?_
    refine zm_istore (L' := [(0, .ref a0), (1, .ref a1), (2, .int i2), (3, .int i3), (4, .int i4), (5, .long l5), (7, .int i2)]) C (by decide) [1, 2, 3, 4, 5, 6, 0] dX1_readPart_14 rfl ?_
    exact w
  · replace w := w.2 z
    exact zm_return C Rt (by show nc ≤ 0; omega) (by show ns ≤ 0; omega) dX1_readPart_12 w
set_option maxRecDepth 20000 in
theorem B_X1_readPart_16 {E : zm_E} {K : zm_K} {Post : zm_Po} {nc ns : Nat} (C : zm_Cx E K cX1_readPart RX1 2 29 0 0 8) (Rt : zm_Rt E Post 0 0 none) {a0 : Nat} {a1 : Nat} {i2 : Int32} {i3 : Int32} {i4 : Int32} {l5 : Int64} {i7 : Int32} {h : zm_H} (hnc : nc ≤ 0) (hns : ns ≤ 0) (w : (i3 ≤ i7 → zm_Go E nc ns 68 [(1, .ref a1), (2, .int i2), (4, .int i4), (7, .int (if i2 < i3 then i3 else i2))] [] h) ∧ (¬ i3 ≤ i7 → zm_gR h a0 1 0 fun v1 => zm_gR h a0 1 0 fun v2 => zm_lL K h v2 (i7 - (nI 1)) fun v3 => zm_rc h a1 7 ∧ zm_cl K M_X7_bitsAt [.ref a1, .int ((i7 - i2) * i4), .int i4] h fun v4 h1 => zm_sL K h1 v1 i7 ((v3 + l5) + v4) fun h2 => zm_Go E nc ns 16 [(0, .ref a0), (1, .ref a1), (2, .int i2), (3, .int i3), (4, .int i4), (5, .long l5), (7, .int (i7 + (nI 1)))] [] h2)) : zm_Go E nc ns 16 [(0, .ref a0), (1, .ref a1), (2, .int i2), (3, .int i3), (4, .int i4), (5, .long l5), (7, .int i7)] [] h := by
  refine zm_iload C 6 rfl dX1_readPart_16 ?_
  refine zm_iload_n C rfl 3 rfl dX1_readPart_18 ?_
  refine zm_icmp_ge (tgt := 61) C dX1_readPart_19 (by decide) (fun z => ?_) (fun z => ?_)
  · replace w := w.1 z
    refine zm_iload_n C rfl 2 rfl dX1_readPart_61 ?_
    refine zm_iload_n C rfl 3 rfl dX1_readPart_62 ?_
    refine zm_mmax C (zm_inG (by decide +kernel) rfl) (zm_inG (by decide +kernel) rfl) (zm_inG (by decide +kernel) rfl) zi_max (by decide) (by decide) (Nat.le_of_ble_eq_true rfl) (by show nc ≤ 0; omega) (by show ns ≤ 0; omega) dX1_readPart_63 ?_
    refine zm_istore (L' := [(0, .ref a0), (1, .ref a1), (2, .int i2), (3, .int i3), (4, .int i4), (5, .long l5), (7, .int (if i2 < i3 then i3 else i2))]) C (by decide) [1, 2, 3, 4, 5, 6, 0] dX1_readPart_66 rfl ?_
    exact zm_loc [1, 2, 4, 6] rfl w
  · replace w := w.2 z
    refine zm_aload_n C rfl 0 rfl dX1_readPart_22 ?_
    refine zm_getR C ff_X1_9 dX1_readPart_23 w (fun v1 w => ?_)
    refine zm_iload C 6 rfl dX1_readPart_26 ?_
    refine zm_aload_n C rfl 0 rfl dX1_readPart_28 ?_
    refine zm_getR C ff_X1_9 dX1_readPart_29 w (fun v2 w => ?_)
    refine zm_iload C 6 rfl dX1_readPart_32 ?_
    refine zm_iconst (v := nI 1) C (by decide) dX1_readPart_34 ?_
    refine zm_isub C dX1_readPart_35 ?_
    refine zm_ldL C dX1_readPart_36 w (fun v3 w => ?_)
    refine zm_lload C 5 rfl dX1_readPart_37 ?_
    refine zm_ladd C dX1_readPart_39 ?_
    refine zm_aload_n C rfl 1 rfl dX1_readPart_40 ?_
    refine zm_iload C 6 rfl dX1_readPart_41 ?_
    refine zm_iload_n C rfl 2 rfl dX1_readPart_43 ?_
    refine zm_isub C dX1_readPart_44 ?_
    refine zm_iload C 4 rfl dX1_readPart_45 ?_
    refine zm_imul C dX1_readPart_47 ?_
    refine zm_iload C 4 rfl dX1_readPart_48 ?_
    obtain ⟨wr, w⟩ := w
    refine zm_Vl (As := [.int ((i7 - i2) * i4), .int i4]) (rest := [.long (v3 + l5), .int i7, .ref v1]) C M_X7_bitsAt sv_X1_117 rfl dX1_readPart_50 rfl (Nat.le_of_ble_eq_true rfl) (by decide) (by decide) (by show nc + 0 ≤ 0; omega) (by show ns + 0 ≤ 0; omega) wr w (fun v4 h1 w => ?_)
    refine zm_ladd C dX1_readPart_53 ?_
    refine zm_stL C dX1_readPart_54 w (fun h2 w => ?_)
    refine zm_iinc (L' := [(0, .ref a0), (1, .ref a1), (2, .int i2), (3, .int i3), (4, .int i4), (5, .long l5), (7, .int (i7 + (nI 1)))]) C (by decide) 6 [1, 2, 3, 4, 5, 6, 0] dX1_readPart_55 rfl rfl rfl ?_
    refine zm_goto (tgt := 16) C dX1_readPart_58 (by decide) ?_
    exact w
set_option maxRecDepth 20000 in
theorem B_X1_readPart_68 {E : zm_E} {K : zm_K} {Post : zm_Po} {nc ns : Nat} (C : zm_Cx E K cX1_readPart RX1 2 29 0 0 8) (Rt : zm_Rt E Post 0 0 none) {a1 : Nat} {i2 : Int32} {i4 : Int32} {i7 : Int32} {h : zm_H} (hnc : nc ≤ 0) (hns : ns ≤ 0) (w : ((i2 + (nI 16)) ≤ i7 → zm_gI h a1 7 1 fun v1 => zm_pf h a1 7 1 (.int (v1 + ((nI 2) * i4))) fun h1 => Post none h1) ∧ (¬ (i2 + (nI 16)) ≤ i7 → zm_rc h a1 7 ∧ zm_cl K M_X7_bitsAt [.ref a1, .int ((i7 - i2) * i4), .int i4] h fun v2 h2 => ((lg_cmp v2 (lN 0)) = 0 → zm_Go E nc ns 68 [(1, .ref a1), (2, .int i2), (4, .int i4), (7, .int (i7 + (nI 1)))] [] h2) ∧ (¬ (lg_cmp v2 (lN 0)) = 0 → zm_rc h2 a1 7 ∧ zm_cv K M_X7_fail [.ref a1, .int (nI 5)] h2 fun h3 => zm_Go E nc ns 68 [(1, .ref a1), (2, .int i2), (4, .int i4), (7, .int (i7 + (nI 1)))] [] h3))) : zm_Go E nc ns 68 [(1, .ref a1), (2, .int i2), (4, .int i4), (7, .int i7)] [] h := by
  refine zm_iload C 3 rfl dX1_readPart_68 ?_
  refine zm_iload_n C rfl 1 rfl dX1_readPart_70 ?_
  refine zm_bipush (v := nI 16) C (by decide) dX1_readPart_71 ?_
  refine zm_iadd C dX1_readPart_73 ?_
  refine zm_icmp_ge (tgt := 106) C dX1_readPart_74 (by decide) (fun z => ?_) (fun z => ?_)
  · replace w := w.1 z
    refine zm_aload_n C rfl 0 rfl dX1_readPart_106 ?_
    refine zm_dup C rfl dX1_readPart_107 ?_
    refine zm_getI C ff_X1_123 dX1_readPart_108 w (fun v1 w => ?_)
    refine zm_iconst (v := nI 2) C (by decide) dX1_readPart_111 ?_
    refine zm_iload C 2 rfl dX1_readPart_112 ?_
    refine zm_imul C dX1_readPart_114 ?_
    refine zm_iadd C dX1_readPart_115 ?_
    refine zm_put C ff_X1_123 ft_X7 fp_X1_7_1 rfl rfl dX1_readPart_116 w (fun h1 w => ?_)
    exact zm_return C Rt (by show nc ≤ 0; omega) (by show ns ≤ 0; omega) dX1_readPart_119 w
  · replace w := w.2 z
    refine zm_aload_n C rfl 0 rfl dX1_readPart_77 ?_
    refine zm_iload C 3 rfl dX1_readPart_78 ?_
    refine zm_iload_n C rfl 1 rfl dX1_readPart_80 ?_
    refine zm_isub C dX1_readPart_81 ?_
    refine zm_iload C 2 rfl dX1_readPart_82 ?_
    refine zm_imul C dX1_readPart_84 ?_
    refine zm_iload C 2 rfl dX1_readPart_85 ?_
    obtain ⟨wr, w⟩ := w
    refine zm_Vl (As := [.int ((i7 - i2) * i4), .int i4]) (rest := []) C M_X7_bitsAt sv_X1_117 rfl dX1_readPart_87 rfl (Nat.le_of_ble_eq_true rfl) (by decide) (by decide) (by show nc + 0 ≤ 0; omega) (by show ns + 0 ≤ 0; omega) wr w (fun v2 h2 w => ?_)
    refine zm_lconst (v := lN 0) C (by decide) dX1_readPart_90 ?_
    refine zm_lcmp C dX1_readPart_91 ?_
    refine zm_if_eq (tgt := 100) C dX1_readPart_92 (by decide) (fun z => ?_) (fun z => ?_)
    · replace w := w.1 z
      refine zm_iinc (L' := [(1, .ref a1), (2, .int i2), (4, .int i4), (7, .int (i7 + (nI 1)))]) C (by decide) 3 [1, 2, 3, 0] dX1_readPart_100 rfl rfl rfl ?_
      refine zm_goto (tgt := 68) C dX1_readPart_103 (by decide) ?_
      exact w
    · replace w := w.2 z
      refine zm_aload_n C rfl 0 rfl dX1_readPart_95 ?_
      refine zm_iconst (v := nI 5) C (by decide) dX1_readPart_96 ?_
      obtain ⟨wr, w⟩ := w
      refine zm_Vv (As := [.int (nI 5)]) (rest := []) C M_X7_fail sv_X1_88 rfl dX1_readPart_97 rfl (Nat.le_of_ble_eq_true rfl) (by decide) (by decide) (by show nc + 0 ≤ 0; omega) (by show ns + 0 ≤ 0; omega) wr w (fun h3 w => ?_)
      refine zm_iinc (L' := [(1, .ref a1), (2, .int i2), (4, .int i4), (7, .int (i7 + (nI 1)))]) C (by decide) 3 [1, 2, 3, 0] dX1_readPart_100 rfl rfl rfl ?_
      refine zm_goto (tgt := 68) C dX1_readPart_103 (by decide) ?_
      exact w
set_option maxRecDepth 20000 in
theorem B_X1_zigzag_0 {E : zm_E} {K : zm_K} {Post : zm_Po} {nc ns : Nat} (C : zm_Cx E K cX1_zigzag RX1 1 0 0 0 2) (Rt : zm_Rt E Post 0 0 (some .long)) {l0 : Int64} {h : zm_H} (hnc : nc ≤ 0) (hns : ns ≤ 0) (w : Post (some (.long ((l0 <<< ((nI 1).toInt64 &&& 63)) ^^^ (l0 >>> ((nI 63).toInt64 &&& 63))))) h) : zm_Go E nc ns 0 [(0, .long l0)] [] h := by
  refine zm_lload_n C rfl 0 rfl dX1_zigzag_0 ?_
  refine zm_iconst (v := nI 1) C (by decide) dX1_zigzag_1 ?_
  refine zm_lshl C dX1_zigzag_2 ?_
  refine zm_lload_n C rfl 0 rfl dX1_zigzag_3 ?_
  refine zm_bipush (v := nI 63) C (by decide) dX1_zigzag_4 ?_
  refine zm_lshr C dX1_zigzag_6 ?_
  refine zm_lxor C dX1_zigzag_7 ?_
  exact zm_lreturn C Rt (by show nc ≤ 0; omega) (by show ns ≤ 0; omega) dX1_zigzag_8 w
set_option maxRecDepth 20000 in
theorem B_X1_unzigzag_0 {E : zm_E} {K : zm_K} {Post : zm_Po} {nc ns : Nat} (C : zm_Cx E K cX1_unzigzag RX1 1 0 0 0 2) (Rt : zm_Rt E Post 0 0 (some .long)) {l0 : Int64} {h : zm_H} (hnc : nc ≤ 0) (hns : ns ≤ 0) (w : Post (some (.long (((l0.toUInt64 >>> ((nI 1).toInt64.toUInt64 &&& Int64.toUInt64 63)).toInt64) ^^^ (-(l0 &&& (lN 1)))))) h) : zm_Go E nc ns 0 [(0, .long l0)] [] h := by
  refine zm_lload_n C rfl 0 rfl dX1_unzigzag_0 ?_
  refine zm_iconst (v := nI 1) C (by decide) dX1_unzigzag_1 ?_
  refine zm_lushr C dX1_unzigzag_2 ?_
  refine zm_lload_n C rfl 0 rfl dX1_unzigzag_3 ?_
  refine zm_lconst (v := lN 1) C (by decide) dX1_unzigzag_4 ?_
  refine zm_land C dX1_unzigzag_5 ?_
  refine zm_lneg C dX1_unzigzag_6 ?_
  refine zm_lxor C dX1_unzigzag_7 ?_
  exact zm_lreturn C Rt (by show nc ≤ 0; omega) (by show ns ≤ 0; omega) dX1_unzigzag_8 w
set_option maxRecDepth 20000 in
theorem B_X2_init_0 {E : zm_E} {K : zm_K} {Post : zm_Po} {nc ns : Nat} (C : zm_Cx E K cX2_init RX2 2 46 4 2004 4) (Rt : zm_Rt E Post 4 2004 none) (hin : zm_in E) {a0 : Nat} {a1 : Nat} {a2 : Nat} {a3 : Nat} {h : zm_H} (hnc : nc + 1 + 1 + 1 + 1 ≤ 4) (hns : ns + 4 + 0 + 1000 + 1000 ≤ 2004) (w : ∀ v1, h v1 = none → zm_cv K M_X7_init [.ref v1] (zm_set h v1 (.inr (7, [.null, .int 0, .int 0, .int 0]))) fun h1 => zm_pf h1 a0 2 0 (.ref v1) fun h2 => ¬ (nI 1000) < 0 ∧ 1000 * componentBytes .int ≤ 536870912 ∧ (ns + 4 + 0) + 1000 ≤ 2004 ∧ ∀ v2, h2 v2 = none → zm_pf (zm_set h2 v2 (.inl (K.2.2 1, 1000, .inl (fun _ => 0)))) a0 2 4 (.ref v2) fun h3 => ¬ (nI 1000) < 0 ∧ 1000 * componentBytes .int ≤ 536870912 ∧ (ns + 4 + 0 + 1000) + 1000 ≤ 2004 ∧ ∀ v3, h3 v3 = none → zm_pf (zm_set h3 v3 (.inl (K.2.2 1, 1000, .inl (fun _ => 0)))) a0 2 5 (.ref v3) fun h4 => zm_pf h4 a0 2 1 (.ref a1) fun h5 => zm_pf h5 a0 2 2 (.ref a2) fun h6 => zm_pf h6 a0 2 3 (.ref a3) fun h7 => Post none h7) : zm_Go E nc ns 0 [(0, .ref a0), (1, .ref a1), (2, .ref a2), (3, .ref a3)] [] h := by
  refine zm_aload_n C rfl 0 rfl dX2_init_0 ?_
  refine zm_objInit C (zm_inG (by decide +kernel) rfl) (zm_inG (by decide +kernel) rfl) zi_objInit (by decide) (by decide) (Nat.le_of_ble_eq_true rfl) dX2_init_1 ?_
  refine zm_aload_n C rfl 0 rfl dX2_init_4 ?_
  refine zm_newo C fn_X2_9 dX2_init_5 (by show nc + 1 ≤ 4; omega) (by show ns + 4 ≤ 2004; omega) (fun v1 hq => ?_)
  replace w := w v1 hq
  refine zm_dup C rfl dX2_init_8 ?_
  refine zm_Nv (As := []) (rest := [.ref v1, .ref a0]) C M_X7_init sn_X2_11 rfl dX2_init_9 rfl (Nat.le_of_ble_eq_true rfl) (by decide) (by decide) (by show nc + 1 + 1 ≤ 4; omega) (by show ns + 4 + 0 ≤ 2004; omega) w (fun h1 w => ?_)
  refine zm_putQ C hin ff_X2_12 ft_X2 fp_X2_2_0 rfl rfl dX2_init_12 w (fun h2 w => ?_)
  refine zm_aload_n C rfl 0 rfl dX2_init_15 ?_
  refine zm_sipush (v := nI 1000) C (by decide) dX2_init_16 ?_
  obtain ⟨g1, g2, g3, w⟩ := w
  refine zm_newa (ty := .int) (N := 1000) (a0 := (1000, .inl (fun _ => 0))) C 1 rfl (fun _ => rfl) (fun _ _ z => z) (zm_inG (by decide +kernel) rfl) (fun _ => rfl) dX2_init_19 g1 (by decide) g2 (by show nc + 1 + 1 + 1 ≤ 4; omega) g3 (fun v2 hq => ?_)
  replace w := w v2 hq
  refine zm_putQ C hin ff_X2_18 ft_X2 fp_X2_2_4 rfl rfl dX2_init_21 w (fun h3 w => ?_)
  refine zm_aload_n C rfl 0 rfl dX2_init_24 ?_
  refine zm_sipush (v := nI 1000) C (by decide) dX2_init_25 ?_
  obtain ⟨g1, g2, g3, w⟩ := w
  refine zm_newa (ty := .int) (N := 1000) (a0 := (1000, .inl (fun _ => 0))) C 1 rfl (fun _ => rfl) (fun _ _ z => z) (zm_inG (by decide +kernel) rfl) (fun _ => rfl) dX2_init_28 g1 (by decide) g2 (by show nc + 1 + 1 + 1 + 1 ≤ 4; omega) g3 (fun v3 hq => ?_)
  replace w := w v3 hq
  refine zm_putQ C hin ff_X2_22 ft_X2 fp_X2_2_5 rfl rfl dX2_init_30 w (fun h4 w => ?_)
  refine zm_aload_n C rfl 0 rfl dX2_init_33 ?_
  refine zm_aload_n C rfl 1 rfl dX2_init_34 ?_
  refine zm_putQ C hin ff_X2_25 ft_X2 fp_X2_2_1 rfl rfl dX2_init_35 w (fun h5 w => ?_)
  refine zm_aload_n C rfl 0 rfl dX2_init_38 ?_
  refine zm_aload_n C rfl 2 rfl dX2_init_39 ?_
  refine zm_putQ C hin ff_X2_29 ft_X2 fp_X2_2_2 rfl rfl dX2_init_40 w (fun h6 w => ?_)
  refine zm_aload_n C rfl 0 rfl dX2_init_43 ?_
  refine zm_aload_n C rfl 3 rfl dX2_init_44 ?_
  refine zm_putQ C hin ff_X2_32 ft_X2 fp_X2_2_3 rfl rfl dX2_init_45 w (fun h7 w => ?_)
  exact zm_return C Rt (by show nc + 1 + 1 + 1 + 1 ≤ 4; omega) (by show ns + 4 + 0 + 1000 + 1000 ≤ 2004; omega) dX2_init_48 w
set_option maxRecDepth 20000 in
theorem B_X2_open_0 {E : zm_E} {K : zm_K} {Post : zm_Po} {nc ns : Nat} (C : zm_Cx E K cX2_open RX2 2 21 0 0 2) (Rt : zm_Rt E Post 0 0 none) {a0 : Nat} {a1 : Nat} {h : zm_H} (hnc : nc ≤ 0) (hns : ns ≤ 0) (w : zm_gR h a0 2 0 fun v1 => zm_rc h v1 7 ∧ zm_cv K M_X7_open [.ref v1, .ref a1] h fun h1 => Post none h1) : zm_Go E nc ns 0 [(0, .ref a0), (1, .ref a1)] [] h := by
  refine zm_aload_n C rfl 0 rfl dX2_open_0 ?_
  refine zm_getR C ff_X2_12 dX2_open_1 w (fun v1 w => ?_)
  refine zm_aload_n C rfl 1 rfl dX2_open_4 ?_
  obtain ⟨wr, w⟩ := w
  refine zm_Vv (As := [.ref a1]) (rest := []) C M_X7_open sv_X2_36 rfl dX2_open_5 rfl (Nat.le_of_ble_eq_true rfl) (by decide) (by decide) (by show nc + 0 ≤ 0; omega) (by show ns + 0 ≤ 0; omega) wr w (fun h1 w => ?_)
  exact zm_return C Rt (by show nc ≤ 0; omega) (by show ns ≤ 0; omega) dX2_open_8 w
set_option maxRecDepth 20000 in
theorem B_X2_fault_0 {E : zm_E} {K : zm_K} {Post : zm_Po} {nc ns : Nat} (C : zm_Cx E K cX2_fault RX2 1 0 0 0 1) (Rt : zm_Rt E Post 0 0 (some .int)) {a0 : Nat} {h : zm_H} (hnc : nc ≤ 0) (hns : ns ≤ 0) (w : zm_gR h a0 2 0 fun v1 => zm_gI h v1 7 3 fun v2 => Post (some (.int v2)) h) : zm_Go E nc ns 0 [(0, .ref a0)] [] h := by
  refine zm_aload_n C rfl 0 rfl dX2_fault_0 ?_
  refine zm_getR C ff_X2_12 dX2_fault_1 w (fun v1 w => ?_)
  refine zm_getI C ff_X2_40 dX2_fault_4 w (fun v2 w => ?_)
  exact zm_ireturn C Rt (by show nc ≤ 0; omega) (by show ns ≤ 0; omega) rfl dX2_fault_7 w
set_option maxRecDepth 20000 in
theorem B_X2_plain_0 {E : zm_E} {K : zm_K} {Post : zm_Po} {nc ns : Nat} (C : zm_Cx E K cX2_plain RX2 5 90 0 0 5) (Rt : zm_Rt E Post 0 0 none) {a0 : Nat} {a1 : Nat} {i2 : Int32} {h : zm_H} (w : zm_Go E nc ns 2 [(0, .ref a0), (1, .ref a1), (2, .int i2), (3, .int (nI 0))] [] h) : zm_Go E nc ns 0 [(0, .ref a0), (1, .ref a1), (2, .int i2)] [] h := by
  refine zm_iconst (v := nI 0) C (by decide) dX2_plain_0 ?_
  refine zm_istore_n (L' := [(0, .ref a0), (1, .ref a1), (2, .int i2), (3, .int (nI 0))]) C rfl (by decide) [1, 2, 3, 0] dX2_plain_1 rfl ?_
  exact w
set_option maxRecDepth 20000 in
theorem B_X2_plain_2 {E : zm_E} {K : zm_K} {Post : zm_Po} {nc ns : Nat} (C : zm_Cx E K cX2_plain RX2 5 90 0 0 5) (Rt : zm_Rt E Post 0 0 none) {a0 : Nat} {a1 : Nat} {i2 : Int32} {i3 : Int32} {h : zm_H} (hnc : nc ≤ 0) (hns : ns ≤ 0) (w : (i2 ≤ i3 → zm_gR h a0 2 0 fun v1 => zm_rc h v1 7 ∧ zm_cv K M_X7_expectEnd [.ref v1] h fun h1 => Post none h1) ∧ (¬ i2 ≤ i3 → zm_gR h a0 2 0 fun v2 => zm_rc h v2 7 ∧ zm_ci K M_X7_failed [.ref v2] h fun v3 h2 => (¬ v3 = 0 → zm_gR h2 a0 2 0 fun v4 => zm_rc h2 v4 7 ∧ zm_cv K M_X7_expectEnd [.ref v4] h2 fun h3 => Post none h3) ∧ (v3 = 0 → zm_rc h2 a0 2 ∧ zm_ci K M_X2_textLength [.ref a0] h2 fun v5 h4 => zm_rc h4 a0 2 ∧ zm_cv K M_X2_takeText [.ref a0, .ref a1, .int (nI 0), .int v5] h4 fun h5 => zm_Go E nc ns 2 [(0, .ref a0), (1, .ref a1), (2, .int i2), (3, .int (i3 + (nI 1)))] [] h5))) : zm_Go E nc ns 2 [(0, .ref a0), (1, .ref a1), (2, .int i2), (3, .int i3)] [] h := by
  refine zm_iload_n C rfl 3 rfl dX2_plain_2 ?_
  refine zm_iload_n C rfl 2 rfl dX2_plain_3 ?_
  refine zm_icmp_ge (tgt := 37) C dX2_plain_4 (by decide) (fun z => ?_) (fun z => ?_)
  · replace w := w.1 z
    refine zm_aload_n C rfl 0 rfl dX2_plain_37 ?_
    refine zm_getR C ff_X2_12 dX2_plain_38 w (fun v1 w => ?_)
    obtain ⟨wr, w⟩ := w
    refine zm_Vv (As := []) (rest := []) C M_X7_expectEnd sv_X2_56 rfl dX2_plain_41 rfl (Nat.le_of_ble_eq_true rfl) (by decide) (by decide) (by show nc + 0 ≤ 0; omega) (by show ns + 0 ≤ 0; omega) wr w (fun h1 w => ?_)
    exact zm_return C Rt (by show nc ≤ 0; omega) (by show ns ≤ 0; omega) dX2_plain_44 w
  · replace w := w.2 z
    refine zm_aload_n C rfl 0 rfl dX2_plain_7 ?_
    refine zm_getR C ff_X2_12 dX2_plain_8 w (fun v2 w => ?_)
    obtain ⟨wr, w⟩ := w
    refine zm_Vi (As := []) (rest := []) C M_X7_failed sv_X2_44 rfl dX2_plain_11 rfl (Nat.le_of_ble_eq_true rfl) (by decide) (by decide) (by show nc + 0 ≤ 0; omega) (by show ns + 0 ≤ 0; omega) wr w (fun v3 h2 w => ?_)
    refine zm_if_ne (tgt := 37) C dX2_plain_14 (by decide) (fun z => ?_) (fun z => ?_)
    · replace w := w.1 z
      refine zm_aload_n C rfl 0 rfl dX2_plain_37 ?_
      refine zm_getR C ff_X2_12 dX2_plain_38 w (fun v4 w => ?_)
      obtain ⟨wr, w⟩ := w
      refine zm_Vv (As := []) (rest := []) C M_X7_expectEnd sv_X2_56 rfl dX2_plain_41 rfl (Nat.le_of_ble_eq_true rfl) (by decide) (by decide) (by show nc + 0 ≤ 0; omega) (by show ns + 0 ≤ 0; omega) wr w (fun h3 w => ?_)
      exact zm_return C Rt (by show nc ≤ 0; omega) (by show ns ≤ 0; omega) dX2_plain_44 w
    · replace w := w.2 z
      refine zm_aload_n C rfl 0 rfl dX2_plain_17 ?_
      obtain ⟨wr, w⟩ := w
      refine zm_Vi (As := []) (rest := []) C M_X2_textLength sv_X2_48 rfl dX2_plain_18 rfl (Nat.le_of_ble_eq_true rfl) (by decide) (by decide) (by show nc + 0 ≤ 0; omega) (by show ns + 0 ≤ 0; omega) wr w (fun v5 h4 w => ?_)
      refine zm_istore (L' := [(0, .ref a0), (1, .ref a1), (2, .int i2), (3, .int i3), (4, .int v5)]) C (by decide) [1, 2, 3, 4, 0] dX2_plain_21 rfl ?_
      refine zm_aload_n C rfl 0 rfl dX2_plain_23 ?_
      refine zm_aload_n C rfl 1 rfl dX2_plain_24 ?_
      refine zm_iconst (v := nI 0) C (by decide) dX2_plain_25 ?_
      refine zm_iload C 4 rfl dX2_plain_26 ?_
      obtain ⟨wr, w⟩ := w
      refine zm_Vv (As := [.ref a1, .int (nI 0), .int v5]) (rest := []) C M_X2_takeText sv_X2_52 rfl dX2_plain_28 rfl (Nat.le_of_ble_eq_true rfl) (by decide) (by decide) (by show nc + 0 ≤ 0; omega) (by show ns + 0 ≤ 0; omega) wr w (fun h5 w => ?_)
      refine zm_iinc (L' := [(0, .ref a0), (1, .ref a1), (2, .int i2), (3, .int (i3 + (nI 1))), (4, .int v5)]) C (by decide) 3 [1, 2, 3, 0, 4] dX2_plain_31 rfl rfl rfl ?_
      refine zm_goto (tgt := 2) C dX2_plain_34 (by decide) ?_
      exact zm_loc [0, 1, 2, 3] rfl w
set_option maxRecDepth 20000 in
theorem B_X2_lengths_0 {E : zm_E} {K : zm_K} {Post : zm_Po} {nc ns : Nat} (C : zm_Cx E K cX2_lengths RX2 7 146 0 0 4) (Rt : zm_Rt E Post 0 0 none) {a0 : Nat} {a1 : Nat} {i2 : Int32} {h : zm_H} (hnc : nc ≤ 0) (hns : ns ≤ 0) (w : zm_gR h a0 2 1 fun v1 => zm_rc h a0 2 ∧ zm_cv K M_X2_takeCode [.ref a0, .ref v1, .int i2] h fun h1 => zm_Go E nc ns 11 [(0, .ref a0), (1, .ref a1), (2, .int i2), (3, .int (nI 0))] [] h1) : zm_Go E nc ns 0 [(0, .ref a0), (1, .ref a1), (2, .int i2)] [] h := by
  refine zm_aload_n C rfl 0 rfl dX2_lengths_0 ?_
  refine zm_aload_n C rfl 0 rfl dX2_lengths_1 ?_
  refine zm_getR C ff_X2_25 dX2_lengths_2 w (fun v1 w => ?_)
  refine zm_iload_n C rfl 2 rfl dX2_lengths_5 ?_
  obtain ⟨wr, w⟩ := w
  refine zm_Vv (As := [.ref v1, .int i2]) (rest := []) C M_X2_takeCode sv_X2_59 rfl dX2_lengths_6 rfl (Nat.le_of_ble_eq_true rfl) (by decide) (by decide) (by show nc + 0 ≤ 0; omega) (by show ns + 0 ≤ 0; omega) wr w (fun h1 w => ?_)
  refine zm_iconst (v := nI 0) C (by decide) dX2_lengths_9 ?_
  refine zm_istore_n (L' := [(0, .ref a0), (1, .ref a1), (2, .int i2), (3, .int (nI 0))]) C rfl (by decide) [1, 2, 3, 0] dX2_lengths_10 rfl ?_
  exact w
set_option maxRecDepth 20000 in
theorem B_X2_lengths_11 {E : zm_E} {K : zm_K} {Post : zm_Po} {nc ns : Nat} (C : zm_Cx E K cX2_lengths RX2 7 146 0 0 4) (Rt : zm_Rt E Post 0 0 none) {a0 : Nat} {a1 : Nat} {i2 : Int32} {i3 : Int32} {h : zm_H} (hnc : nc ≤ 0) (hns : ns ≤ 0) (w : (i2 ≤ i3 → zm_Go E nc ns 58 [(0, .ref a0), (1, .ref a1), (2, .int i2), (3, .int (nI 0))] [] h) ∧ (¬ i2 ≤ i3 → zm_gR h a0 2 0 fun v1 => zm_rc h v1 7 ∧ zm_ci K M_X7_failed [.ref v1] h fun v2 h1 => (¬ v2 = 0 → zm_Go E nc ns 58 [(0, .ref a0), (1, .ref a1), (2, .int i2), (3, .int (nI 0))] [] h1) ∧ (v2 = 0 → zm_gR h1 a0 2 1 fun v3 => zm_gR h1 v3 1 0 fun v4 => zm_lL K h1 v4 i3 fun v5 => zm_ci K M_X2_isLength [.long v5] h1 fun v6 h2 => (¬ v6 = 0 → zm_Go E nc ns 11 [(0, .ref a0), (1, .ref a1), (2, .int i2), (3, .int (i3 + (nI 1)))] [] h2) ∧ (v6 = 0 → zm_gR h2 a0 2 0 fun v7 => zm_rc h2 v7 7 ∧ zm_cv K M_X7_fail [.ref v7, .int (nI 7)] h2 fun h3 => zm_Go E nc ns 11 [(0, .ref a0), (1, .ref a1), (2, .int i2), (3, .int (i3 + (nI 1)))] [] h3)))) : zm_Go E nc ns 11 [(0, .ref a0), (1, .ref a1), (2, .int i2), (3, .int i3)] [] h := by
  refine zm_iload_n C rfl 3 rfl dX2_lengths_11 ?_
  refine zm_iload_n C rfl 2 rfl dX2_lengths_12 ?_
  refine zm_icmp_ge (tgt := 56) C dX2_lengths_13 (by decide) (fun z => ?_) (fun z => ?_)
  · replace w := w.1 z
    refine zm_iconst (v := nI 0) C (by decide) dX2_lengths_56 ?_
    refine zm_istore_n (L' := [(0, .ref a0), (1, .ref a1), (2, .int i2), (3, .int (nI 0))]) C rfl (by decide) [1, 2, 3, 0] dX2_lengths_57 rfl ?_
    exact w
  · replace w := w.2 z
    refine zm_aload_n C rfl 0 rfl dX2_lengths_16 ?_
    refine zm_getR C ff_X2_12 dX2_lengths_17 w (fun v1 w => ?_)
    obtain ⟨wr, w⟩ := w
    refine zm_Vi (As := []) (rest := []) C M_X7_failed sv_X2_44 rfl dX2_lengths_20 rfl (Nat.le_of_ble_eq_true rfl) (by decide) (by decide) (by show nc + 0 ≤ 0; omega) (by show ns + 0 ≤ 0; omega) wr w (fun v2 h1 w => ?_)
    refine zm_if_ne (tgt := 56) C dX2_lengths_23 (by decide) (fun z => ?_) (fun z => ?_)
    · replace w := w.1 z
      refine zm_iconst (v := nI 0) C (by decide) dX2_lengths_56 ?_
      refine zm_istore_n (L' := [(0, .ref a0), (1, .ref a1), (2, .int i2), (3, .int (nI 0))]) C rfl (by decide) [1, 2, 3, 0] dX2_lengths_57 rfl ?_
      exact w
    · replace w := w.2 z
      refine zm_aload_n C rfl 0 rfl dX2_lengths_26 ?_
      refine zm_getR C ff_X2_25 dX2_lengths_27 w (fun v3 w => ?_)
      refine zm_getR C ff_X2_63 dX2_lengths_30 w (fun v4 w => ?_)
      refine zm_iload_n C rfl 3 rfl dX2_lengths_33 ?_
      refine zm_ldL C dX2_lengths_34 w (fun v5 w => ?_)
      refine zm_Si (As := [.long v5]) (rest := []) C M_X2_isLength ss_X2_69 rfl dX2_lengths_35 rfl (Nat.le_of_ble_eq_true rfl) (by decide) (by decide) (by show nc + 0 ≤ 0; omega) (by show ns + 0 ≤ 0; omega) w (fun v6 h2 w => ?_)
      refine zm_if_ne (tgt := 50) C dX2_lengths_38 (by decide) (fun z => ?_) (fun z => ?_)
      · replace w := w.1 z
        refine zm_iinc (L' := [(0, .ref a0), (1, .ref a1), (2, .int i2), (3, .int (i3 + (nI 1)))]) C (by decide) 3 [1, 2, 3, 0] dX2_lengths_50 rfl rfl rfl ?_
        refine zm_goto (tgt := 11) C dX2_lengths_53 (by decide) ?_
        exact w
      · replace w := w.2 z
        refine zm_aload_n C rfl 0 rfl dX2_lengths_41 ?_
        refine zm_getR C ff_X2_12 dX2_lengths_42 w (fun v7 w => ?_)
        refine zm_bipush (v := nI 7) C (by decide) dX2_lengths_45 ?_
        obtain ⟨wr, w⟩ := w
        refine zm_Vv (As := [.int (nI 7)]) (rest := []) C M_X7_fail sv_X2_73 rfl dX2_lengths_47 rfl (Nat.le_of_ble_eq_true rfl) (by decide) (by decide) (by show nc + 0 ≤ 0; omega) (by show ns + 0 ≤ 0; omega) wr w (fun h3 w => ?_)
        refine zm_iinc (L' := [(0, .ref a0), (1, .ref a1), (2, .int i2), (3, .int (i3 + (nI 1)))]) C (by decide) 3 [1, 2, 3, 0] dX2_lengths_50 rfl rfl rfl ?_
        refine zm_goto (tgt := 11) C dX2_lengths_53 (by decide) ?_
        exact w
set_option maxRecDepth 20000 in
theorem B_X2_lengths_58 {E : zm_E} {K : zm_K} {Post : zm_Po} {nc ns : Nat} (C : zm_Cx E K cX2_lengths RX2 7 146 0 0 4) (Rt : zm_Rt E Post 0 0 none) {a0 : Nat} {a1 : Nat} {i2 : Int32} {i3 : Int32} {h : zm_H} (hnc : nc ≤ 0) (hns : ns ≤ 0) (w : (i2 ≤ i3 → zm_gR h a0 2 0 fun v1 => zm_rc h v1 7 ∧ zm_cv K M_X7_expectEnd [.ref v1] h fun h1 => Post none h1) ∧ (¬ i2 ≤ i3 → zm_gR h a0 2 0 fun v2 => zm_rc h v2 7 ∧ zm_ci K M_X7_failed [.ref v2] h fun v3 h2 => (¬ v3 = 0 → zm_gR h2 a0 2 0 fun v4 => zm_rc h2 v4 7 ∧ zm_cv K M_X7_expectEnd [.ref v4] h2 fun h3 => Post none h3) ∧ (v3 = 0 → zm_gR h2 a0 2 1 fun v5 => zm_gR h2 v5 1 0 fun v6 => zm_lL K h2 v6 i3 fun v7 => zm_rc h2 a0 2 ∧ zm_cv K M_X2_takeText [.ref a0, .ref a1, .int (nI 0), .int v7.toInt32] h2 fun h4 => zm_Go E nc ns 58 [(0, .ref a0), (1, .ref a1), (2, .int i2), (3, .int (i3 + (nI 1)))] [] h4))) : zm_Go E nc ns 58 [(0, .ref a0), (1, .ref a1), (2, .int i2), (3, .int i3)] [] h := by
  refine zm_iload_n C rfl 3 rfl dX2_lengths_58 ?_
  refine zm_iload_n C rfl 2 rfl dX2_lengths_59 ?_
  refine zm_icmp_ge (tgt := 95) C dX2_lengths_60 (by decide) (fun z => ?_) (fun z => ?_)
  · replace w := w.1 z
    refine zm_aload_n C rfl 0 rfl dX2_lengths_95 ?_
    refine zm_getR C ff_X2_12 dX2_lengths_96 w (fun v1 w => ?_)
    obtain ⟨wr, w⟩ := w
    refine zm_Vv (As := []) (rest := []) C M_X7_expectEnd sv_X2_56 rfl dX2_lengths_99 rfl (Nat.le_of_ble_eq_true rfl) (by decide) (by decide) (by show nc + 0 ≤ 0; omega) (by show ns + 0 ≤ 0; omega) wr w (fun h1 w => ?_)
    exact zm_return C Rt (by show nc ≤ 0; omega) (by show ns ≤ 0; omega) dX2_lengths_102 w
  · replace w := w.2 z
    refine zm_aload_n C rfl 0 rfl dX2_lengths_63 ?_
    refine zm_getR C ff_X2_12 dX2_lengths_64 w (fun v2 w => ?_)
    obtain ⟨wr, w⟩ := w
    refine zm_Vi (As := []) (rest := []) C M_X7_failed sv_X2_44 rfl dX2_lengths_67 rfl (Nat.le_of_ble_eq_true rfl) (by decide) (by decide) (by show nc + 0 ≤ 0; omega) (by show ns + 0 ≤ 0; omega) wr w (fun v3 h2 w => ?_)
    refine zm_if_ne (tgt := 95) C dX2_lengths_70 (by decide) (fun z => ?_) (fun z => ?_)
    · replace w := w.1 z
      refine zm_aload_n C rfl 0 rfl dX2_lengths_95 ?_
      refine zm_getR C ff_X2_12 dX2_lengths_96 w (fun v4 w => ?_)
      obtain ⟨wr, w⟩ := w
      refine zm_Vv (As := []) (rest := []) C M_X7_expectEnd sv_X2_56 rfl dX2_lengths_99 rfl (Nat.le_of_ble_eq_true rfl) (by decide) (by decide) (by show nc + 0 ≤ 0; omega) (by show ns + 0 ≤ 0; omega) wr w (fun h3 w => ?_)
      exact zm_return C Rt (by show nc ≤ 0; omega) (by show ns ≤ 0; omega) dX2_lengths_102 w
    · replace w := w.2 z
      refine zm_aload_n C rfl 0 rfl dX2_lengths_73 ?_
      refine zm_aload_n C rfl 1 rfl dX2_lengths_74 ?_
      refine zm_iconst (v := nI 0) C (by decide) dX2_lengths_75 ?_
      refine zm_aload_n C rfl 0 rfl dX2_lengths_76 ?_
      refine zm_getR C ff_X2_25 dX2_lengths_77 w (fun v5 w => ?_)
      refine zm_getR C ff_X2_63 dX2_lengths_80 w (fun v6 w => ?_)
      refine zm_iload_n C rfl 3 rfl dX2_lengths_83 ?_
      refine zm_ldL C dX2_lengths_84 w (fun v7 w => ?_)
      refine zm_l2i C dX2_lengths_85 ?_
      obtain ⟨wr, w⟩ := w
      refine zm_Vv (As := [.ref a1, .int (nI 0), .int v7.toInt32]) (rest := []) C M_X2_takeText sv_X2_52 rfl dX2_lengths_86 rfl (Nat.le_of_ble_eq_true rfl) (by decide) (by decide) (by show nc + 0 ≤ 0; omega) (by show ns + 0 ≤ 0; omega) wr w (fun h4 w => ?_)
      refine zm_iinc (L' := [(0, .ref a0), (1, .ref a1), (2, .int i2), (3, .int (i3 + (nI 1)))]) C (by decide) 3 [1, 2, 3, 0] dX2_lengths_89 rfl rfl rfl ?_
      refine zm_goto (tgt := 58) C dX2_lengths_92 (by decide) ?_
      exact w
