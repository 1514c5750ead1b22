theorem fn_L_7 : zm_FN RL 7 8 [.null, .null, .null, .null, .null, .null, .null] 7 := ⟨_, tyX8, rfl, rfl, zi_X8, tyX8_ok, zm_inG (by decide +kernel) rfl, zm_inG (by decide +kernel) rfl, zm_inG (by decide +kernel) rfl, by decide +kernel⟩
theorem si_L_9 : zm_SI RL 9 M_X8_init 0 := ⟨sb_X8_init, rfl, rfl, by decide +kernel⟩
theorem fn_L_10 : zm_FN RL 10 9 [.int 0, .null, .null, .null, .null, .null, .null, .int 0, .int 0, .int 0, .null, .null, .null, .int 0, .int 0, .int 0, .int 0, .int 0, .null, .int 0, .null, .null, .null] 23 := ⟨_, tyX9, rfl, rfl, zi_X9, tyX9_ok, zm_inG (by decide +kernel) rfl, zm_inG (by decide +kernel) rfl, zm_inG (by decide +kernel) rfl, by decide +kernel⟩
theorem si_L_12 : zm_SI RL 12 M_X9_init 0 := ⟨sb_X9_init, rfl, rfl, by decide +kernel⟩
theorem sv_L_13 : zm_SV RL 13 8 M_X8_feed 5 := ⟨sb_X8_feed, ⟨_, rfl, rfl⟩, by decide +kernel⟩
theorem sv_L_17 : zm_SV RL 17 9 M_X9_feed 5 := ⟨sb_X9_feed, ⟨_, rfl, rfl⟩, by decide +kernel⟩
theorem sv_L_18 : zm_SV RL 18 8 M_X8_end 1 := ⟨sb_X8_end, ⟨_, rfl, rfl⟩, by decide +kernel⟩
theorem sv_L_22 : zm_SV RL 22 9 M_X9_end 1 := ⟨sb_X9_end, ⟨_, rfl, rfl⟩, by decide +kernel⟩
theorem sv_L_23 : zm_SV RL 23 8 M_X8_add 1 := ⟨sb_X8_add, ⟨_, rfl, rfl⟩, by decide +kernel⟩
theorem sv_L_26 : zm_SV RL 26 9 M_X9_add 1 := ⟨sb_X9_add, ⟨_, rfl, rfl⟩, by decide +kernel⟩
theorem sv_L_27 : zm_SV RL 27 8 M_X8_clear 0 := ⟨sb_X8_clear, ⟨_, rfl, rfl⟩, by decide +kernel⟩
theorem sv_L_30 : zm_SV RL 30 9 M_X9_clear 0 := ⟨sb_X9_clear, ⟨_, rfl, rfl⟩, by decide +kernel⟩
theorem sv_L_31 : zm_SV RL 31 8 M_X8_write 1 := ⟨sb_X8_write, ⟨_, rfl, rfl⟩, by decide +kernel⟩
theorem sv_L_35 : zm_SV RL 35 9 M_X9_write 1 := ⟨sb_X9_write, ⟨_, rfl, rfl⟩, by decide +kernel⟩
theorem sv_L_36 : zm_SV RL 36 8 M_X8_read 2 := ⟨sb_X8_read, ⟨_, rfl, rfl⟩, by decide +kernel⟩
theorem sv_L_40 : zm_SV RL 40 9 M_X9_read 2 := ⟨sb_X9_read, ⟨_, rfl, rfl⟩, by decide +kernel⟩
theorem sv_L_41 : zm_SV RL 41 8 M_X8_turn 0 := ⟨sb_X8_turn, ⟨_, rfl, rfl⟩, by decide +kernel⟩
theorem sv_L_45 : zm_SV RL 45 9 M_X9_turn 0 := ⟨sb_X9_turn, ⟨_, rfl, rfl⟩, by decide +kernel⟩
theorem sv_L_46 : zm_SV RL 46 8 M_X8_size 0 := ⟨sb_X8_size, ⟨_, rfl, rfl⟩, by decide +kernel⟩
theorem sv_L_50 : zm_SV RL 50 9 M_X9_size 0 := ⟨sb_X9_size, ⟨_, rfl, rfl⟩, by decide +kernel⟩
theorem sv_L_51 : zm_SV RL 51 8 M_X8_length 1 := ⟨sb_X8_length, ⟨_, rfl, rfl⟩, by decide +kernel⟩
theorem sv_L_54 : zm_SV RL 54 9 M_X9_length 1 := ⟨sb_X9_length, ⟨_, rfl, rfl⟩, by decide +kernel⟩
theorem sv_L_55 : zm_SV RL 55 8 M_X8_byteOf 2 := ⟨sb_X8_byteOf, ⟨_, rfl, rfl⟩, by decide +kernel⟩
theorem sv_L_58 : zm_SV RL 58 9 M_X9_byteOf 2 := ⟨sb_X9_byteOf, ⟨_, rfl, rfl⟩, by decide +kernel⟩
theorem sv_L_59 : zm_SV RL 59 8 M_X8_output 1 := ⟨sb_X8_output, ⟨_, rfl, rfl⟩, by decide +kernel⟩
theorem sv_L_62 : zm_SV RL 62 9 M_X9_output 1 := ⟨sb_X9_output, ⟨_, rfl, rfl⟩, by decide +kernel⟩
set_option maxRecDepth 20000 in
theorem B_L_law_0 {E : zm_E} {K : zm_K} {nc ns : Nat} (C : zm_Cx E K cL_law RL 9 196 600000 7302250 4) {a0 n9 : Nat} {xs : Nat → Int32} (X9 : zm_sX E a0 n9 xs) (Z9 : zm_lZ E a0)  {h : zm_H} (hnc : nc + 1 + 31 + 1 + 13 ≤ 600000) (hns : ns + 7 + 148098 + 23 + 176011 ≤ 7302250) (w : ∀ v1, h v1 = none → zm_cv K M_X8_init [.ref v1] (zm_set h v1 (.inr (8, [.null, .null, .null, .null, .null, .null, .null]))) fun h1 => ∀ v2, h1 v2 = none → zm_cv K M_X9_init [.ref v2] (zm_set h1 v2 (.inr (9, [.int 0, .null, .null, .null, .null, .null, .null, .int 0, .int 0, .int 0, .null, .null, .null, .int 0, .int 0, .int 0, .int 0, .int 0, .null, .int 0, .null, .null, .null]))) fun h2 => zm_Go E (nc + 1 + 31 + 1 + 13) (ns + 7 + 148098 + 23 + 176011) 18 [(0, .ref a0), (1, .ref v1), (2, .ref v2), (3, .int (nI 0))] [] h2) : zm_Go E nc ns 0 [(0, .ref a0)] [] h := by
  refine zm_newo C fn_L_7 dL_law_0 (by show nc + 1 ≤ 600000; omega) (by show ns + 7 ≤ 7302250; omega) (fun v1 hq => ?_)
  replace w := w v1 hq
  refine zm_dup C rfl dL_law_3 ?_
  refine zm_Iv (As := []) (rest := [.ref v1]) C M_X8_init si_L_9 rfl dL_law_4 rfl (Nat.le_of_ble_eq_true rfl) (by decide) (by decide) (by show nc + 1 + 31 ≤ 600000; omega) (by show ns + 7 + 148098 ≤ 7302250; omega) w (fun h1 w => ?_)
  refine zm_astore_n (L' := [(0, .ref a0), (1, .ref v1)]) C rfl (by decide) [1, 0] dL_law_7 rfl ?_
  refine zm_newo C fn_L_10 dL_law_8 (by show nc + 1 + 31 + 1 ≤ 600000; omega) (by show ns + 7 + 148098 + 23 ≤ 7302250; omega) (fun v2 hq => ?_)
  replace w := w v2 hq
  refine zm_dup C rfl dL_law_11 ?_
  refine zm_Iv (As := []) (rest := [.ref v2]) C M_X9_init si_L_12 rfl dL_law_12 rfl (Nat.le_of_ble_eq_true rfl) (by decide) (by decide) (by show nc + 1 + 31 + 1 + 13 ≤ 600000; omega) (by show ns + 7 + 148098 + 23 + 176011 ≤ 7302250; omega) w (fun h2 w => ?_)
  refine zm_astore_n (L' := [(0, .ref a0), (1, .ref v1), (2, .ref v2)]) C rfl (by decide) [1, 2, 0] dL_law_15 rfl ?_
  refine zm_iconst (v := nI 0) C (by decide) dL_law_16 ?_
  refine zm_istore_n (L' := [(0, .ref a0), (1, .ref v1), (2, .ref v2), (3, .int (nI 0))]) C rfl (by decide) [1, 2, 3, 0] dL_law_17 rfl ?_
  exact w
set_option maxRecDepth 20000 in
theorem B_L_law_18 {E : zm_E} {K : zm_K} {nc ns : Nat} (C : zm_Cx E K cL_law RL 9 196 600000 7302250 4) {a0 n9 : Nat} {xs : Nat → Int32} (X9 : zm_sX E a0 n9 xs) (Z9 : zm_lZ E a0)  {a1 : Nat} {a2 : Nat} {i3 : Int32} {h : zm_H} (hnc : nc ≤ 600000) (hns : ns ≤ 7302250) (w : (((nI n9) - (nI 6)) < i3 → (nI 1) = nI 1) ∧ (¬ ((nI n9) - (nI 6)) < i3 → vp_in i3 n9 ∧ (((xs (i3).toNatClampNeg) &&& (nI 15)) = nI 0 → zm_Go E nc ns 92 [(0, .ref a0), (1, .ref a1), (2, .ref a2), (3, .int i3)] [] h) ∧ (((xs (i3).toNatClampNeg) &&& (nI 15)) = nI 1 → zm_Go E nc ns 155 [(0, .ref a0), (1, .ref a1), (2, .ref a2), (3, .int i3)] [] h) ∧ (((xs (i3).toNatClampNeg) &&& (nI 15)) = nI 2 → zm_Go E nc ns 178 [(0, .ref a0), (1, .ref a1), (2, .ref a2), (3, .int i3)] [] h) ∧ (((xs (i3).toNatClampNeg) &&& (nI 15)) = nI 3 → zm_Go E nc ns 201 [(0, .ref a0), (1, .ref a1), (2, .ref a2), (3, .int i3)] [] h) ∧ (((xs (i3).toNatClampNeg) &&& (nI 15)) = nI 4 → zm_Go E nc ns 212 [(0, .ref a0), (1, .ref a1), (2, .ref a2), (3, .int i3)] [] h) ∧ (((xs (i3).toNatClampNeg) &&& (nI 15)) = nI 5 → zm_Go E nc ns 235 [(0, .ref a0), (1, .ref a1), (2, .ref a2), (3, .int i3)] [] h) ∧ (((xs (i3).toNatClampNeg) &&& (nI 15)) = nI 6 → zm_Go E nc ns 268 [(0, .ref a0), (1, .ref a1), (2, .ref a2), (3, .int i3)] [] h) ∧ (((xs (i3).toNatClampNeg) &&& (nI 15)) = nI 7 → zm_Go E nc ns 281 [(0, .ref a0), (1, .ref a1), (2, .ref a2), (3, .int i3)] [] h) ∧ (((xs (i3).toNatClampNeg) &&& (nI 15)) = nI 8 → zm_Go E nc ns 294 [(0, .ref a0), (1, .ref a1), (2, .ref a2), (3, .int i3)] [] h) ∧ (((xs (i3).toNatClampNeg) &&& (nI 15)) = nI 9 → zm_Go E nc ns 317 [(0, .ref a0), (1, .ref a1), (2, .ref a2), (3, .int i3)] [] h) ∧ (((xs (i3).toNatClampNeg) &&& (nI 15)) = nI 10 → zm_Go E nc ns 350 [(0, .ref a0), (1, .ref a1), (2, .ref a2), (3, .int i3)] [] h) ∧ (¬ ((xs (i3).toNatClampNeg) &&& (nI 15)) = nI 0 → ¬ ((xs (i3).toNatClampNeg) &&& (nI 15)) = nI 1 → ¬ ((xs (i3).toNatClampNeg) &&& (nI 15)) = nI 2 → ¬ ((xs (i3).toNatClampNeg) &&& (nI 15)) = nI 3 → ¬ ((xs (i3).toNatClampNeg) &&& (nI 15)) = nI 4 → ¬ ((xs (i3).toNatClampNeg) &&& (nI 15)) = nI 5 → ¬ ((xs (i3).toNatClampNeg) &&& (nI 15)) = nI 6 → ¬ ((xs (i3).toNatClampNeg) &&& (nI 15)) = nI 7 → ¬ ((xs (i3).toNatClampNeg) &&& (nI 15)) = nI 8 → ¬ ((xs (i3).toNatClampNeg) &&& (nI 15)) = nI 9 → ¬ ((xs (i3).toNatClampNeg) &&& (nI 15)) = nI 10 → zm_Go E nc ns 373 [(0, .ref a0), (1, .ref a1), (2, .ref a2), (3, .int i3)] [] h))) : zm_Go E nc ns 18 [(0, .ref a0), (1, .ref a1), (2, .ref a2), (3, .int i3)] [] h := by
  refine zm_iload_n C rfl 3 rfl dL_law_18 ?_
  refine zm_aload_n C rfl 0 rfl dL_law_19 ?_
  refine zm_scn C X9 dL_law_20 ?_
  refine zm_bipush (v := nI 6) C (by decide) dL_law_21 ?_
  refine zm_isub C dL_law_23 ?_
  refine zm_icmp_gt (tgt := 379) C dL_law_24 (by decide) (fun z => ?_) (fun z => ?_)
  · replace w := w.1 z
    refine zm_iconst (v := nI 1) C (by decide) dL_law_379 ?_
    exact zm_lend C Z9 (by show nc ≤ 600000; omega) (by show ns ≤ 7302250; omega) dL_law_380 w
  · replace w := w.2 z
    refine zm_aload_n C rfl 0 rfl dL_law_27 ?_
    refine zm_iload_n C rfl 3 rfl dL_law_28 ?_
    refine zm_scl C X9 dL_law_29 w.1 ?_
    replace w := w.2
    refine zm_bipush (v := nI 15) C (by decide) dL_law_30 ?_
    refine zm_iand C dL_law_32 ?_
    by_cases z0 : ((xs (i3).toNatClampNeg) &&& (nI 15)) = nI 0
    · replace w := w.1 z0
      refine zm_swIn (off := 59) (tgt := 92) C dL_law_33 (by rw [z0]; decide) (by rw [z0]; decide) (by rw [z0]; decide) (by decide) ?_
      exact w
    by_cases z1 : ((xs (i3).toNatClampNeg) &&& (nI 15)) = nI 1
    · replace w := w.2.1 z1
      refine zm_swIn (off := 122) (tgt := 155) C dL_law_33 (by rw [z1]; decide) (by rw [z1]; decide) (by rw [z1]; decide) (by decide) ?_
      exact w
    by_cases z2 : ((xs (i3).toNatClampNeg) &&& (nI 15)) = nI 2
    · replace w := w.2.2.1 z2
      refine zm_swIn (off := 145) (tgt := 178) C dL_law_33 (by rw [z2]; decide) (by rw [z2]; decide) (by rw [z2]; decide) (by decide) ?_
      exact w
    by_cases z3 : ((xs (i3).toNatClampNeg) &&& (nI 15)) = nI 3
    · replace w := w.2.2.2.1 z3
      refine zm_swIn (off := 168) (tgt := 201) C dL_law_33 (by rw [z3]; decide) (by rw [z3]; decide) (by rw [z3]; decide) (by decide) ?_
      exact w
    by_cases z4 : ((xs (i3).toNatClampNeg) &&& (nI 15)) = nI 4
    · replace w := w.2.2.2.2.1 z4
      refine zm_swIn (off := 179) (tgt := 212) C dL_law_33 (by rw [z4]; decide) (by rw [z4]; decide) (by rw [z4]; decide) (by decide) ?_
      exact w
    by_cases z5 : ((xs (i3).toNatClampNeg) &&& (nI 15)) = nI 5
    · replace w := w.2.2.2.2.2.1 z5
      refine zm_swIn (off := 202) (tgt := 235) C dL_law_33 (by rw [z5]; decide) (by rw [z5]; decide) (by rw [z5]; decide) (by decide) ?_
      exact w
    by_cases z6 : ((xs (i3).toNatClampNeg) &&& (nI 15)) = nI 6
    · replace w := w.2.2.2.2.2.2.1 z6
      refine zm_swIn (off := 235) (tgt := 268) C dL_law_33 (by rw [z6]; decide) (by rw [z6]; decide) (by rw [z6]; decide) (by decide) ?_
      exact w
    by_cases z7 : ((xs (i3).toNatClampNeg) &&& (nI 15)) = nI 7
    · replace w := w.2.2.2.2.2.2.2.1 z7
      refine zm_swIn (off := 248) (tgt := 281) C dL_law_33 (by rw [z7]; decide) (by rw [z7]; decide) (by rw [z7]; decide) (by decide) ?_
      exact w
    by_cases z8 : ((xs (i3).toNatClampNeg) &&& (nI 15)) = nI 8
    · replace w := w.2.2.2.2.2.2.2.2.1 z8
      refine zm_swIn (off := 261) (tgt := 294) C dL_law_33 (by rw [z8]; decide) (by rw [z8]; decide) (by rw [z8]; decide) (by decide) ?_
      exact w
    by_cases z9 : ((xs (i3).toNatClampNeg) &&& (nI 15)) = nI 9
    · replace w := w.2.2.2.2.2.2.2.2.2.1 z9
      refine zm_swIn (off := 284) (tgt := 317) C dL_law_33 (by rw [z9]; decide) (by rw [z9]; decide) (by rw [z9]; decide) (by decide) ?_
      exact w
    by_cases z10 : ((xs (i3).toNatClampNeg) &&& (nI 15)) = nI 10
    · replace w := w.2.2.2.2.2.2.2.2.2.2.1 z10
      refine zm_swIn (off := 317) (tgt := 350) C dL_law_33 (by rw [z10]; decide) (by rw [z10]; decide) (by rw [z10]; decide) (by decide) ?_
      exact w
    replace w := w.2.2.2.2.2.2.2.2.2.2.2 z0 z1 z2 z3 z4 z5 z6 z7 z8 z9 z10
    refine zm_swOut (tgt := 373) C dL_law_33 (zm_outN (hi := 10) (by decide) (fun k hk => by rcases (show k = 0 ∨ k = 1 ∨ k = 2 ∨ k = 3 ∨ k = 4 ∨ k = 5 ∨ k = 6 ∨ k = 7 ∨ k = 8 ∨ k = 9 ∨ k = 10 by omega) with rfl | rfl | rfl | rfl | rfl | rfl | rfl | rfl | rfl | rfl | rfl <;> assumption)) (by decide) ?_
    exact w
set_option maxRecDepth 20000 in
theorem B_L_law_92 {E : zm_E} {K : zm_K} {nc ns : Nat} (C : zm_Cx E K cL_law RL 9 196 600000 7302250 4) {a0 n9 : Nat} {xs : Nat → Int32} (X9 : zm_sX E a0 n9 xs) (Z9 : zm_lZ E a0)  {a1 : Nat} {a2 : Nat} {i3 : Int32} {h : zm_H} (hnc : nc ≤ 600000) (hns : ns ≤ 7302250) (w : vp_in (i3 + (nI 1)) n9 ∧ vp_in (i3 + (nI 2)) n9 ∧ vp_in (i3 + (nI 3)) n9 ∧ vp_in (i3 + (nI 4)) n9 ∧ vp_in (i3 + (nI 5)) n9 ∧ zm_rc h a1 8 ∧ zm_ci K M_X8_feed [.ref a1, .int (xs (i3 + (nI 1)).toNatClampNeg), .int (xs (i3 + (nI 2)).toNatClampNeg), .int (xs (i3 + (nI 3)).toNatClampNeg), .int (xs (i3 + (nI 4)).toNatClampNeg), .int (xs (i3 + (nI 5)).toNatClampNeg)] h fun v1 h1 => vp_in (i3 + (nI 1)) n9 ∧ vp_in (i3 + (nI 2)) n9 ∧ vp_in (i3 + (nI 3)) n9 ∧ vp_in (i3 + (nI 4)) n9 ∧ vp_in (i3 + (nI 5)) n9 ∧ zm_rc h1 a2 9 ∧ zm_ci K M_X9_feed [.ref a2, .int (xs (i3 + (nI 1)).toNatClampNeg), .int (xs (i3 + (nI 2)).toNatClampNeg), .int (xs (i3 + (nI 3)).toNatClampNeg), .int (xs (i3 + (nI 4)).toNatClampNeg), .int (xs (i3 + (nI 5)).toNatClampNeg)] h1 fun v2 h2 => zm_Go E nc ns 373 [(0, .ref a0), (1, .ref a1), (2, .ref a2), (3, .int i3)] [] h2) : zm_Go E nc ns 92 [(0, .ref a0), (1, .ref a1), (2, .ref a2), (3, .int i3)] [] h := by
  refine zm_aload_n C rfl 1 rfl dL_law_92 ?_
  refine zm_aload_n C rfl 0 rfl dL_law_93 ?_
  refine zm_iload_n C rfl 3 rfl dL_law_94 ?_
  refine zm_iconst (v := nI 1) C (by decide) dL_law_95 ?_
  refine zm_iadd C dL_law_96 ?_
  refine zm_scl C X9 dL_law_97 w.1 ?_
  replace w := w.2
  refine zm_aload_n C rfl 0 rfl dL_law_98 ?_
  refine zm_iload_n C rfl 3 rfl dL_law_99 ?_
  refine zm_iconst (v := nI 2) C (by decide) dL_law_100 ?_
  refine zm_iadd C dL_law_101 ?_
  refine zm_scl C X9 dL_law_102 w.1 ?_
  replace w := w.2
  refine zm_aload_n C rfl 0 rfl dL_law_103 ?_
  refine zm_iload_n C rfl 3 rfl dL_law_104 ?_
  refine zm_iconst (v := nI 3) C (by decide) dL_law_105 ?_
  refine zm_iadd C dL_law_106 ?_
  refine zm_scl C X9 dL_law_107 w.1 ?_
  replace w := w.2
  refine zm_aload_n C rfl 0 rfl dL_law_108 ?_
  refine zm_iload_n C rfl 3 rfl dL_law_109 ?_
  refine zm_iconst (v := nI 4) C (by decide) dL_law_110 ?_
  refine zm_iadd C dL_law_111 ?_
  refine zm_scl C X9 dL_law_112 w.1 ?_
  replace w := w.2
  refine zm_aload_n C rfl 0 rfl dL_law_113 ?_
  refine zm_iload_n C rfl 3 rfl dL_law_114 ?_
  refine zm_iconst (v := nI 5) C (by decide) dL_law_115 ?_
  refine zm_iadd C dL_law_116 ?_
  refine zm_scl C X9 dL_law_117 w.1 ?_
  replace w := w.2
  obtain ⟨wr, w⟩ := w
  refine zm_Vi (As := [.int (xs (i3 + (nI 1)).toNatClampNeg), .int (xs (i3 + (nI 2)).toNatClampNeg), .int (xs (i3 + (nI 3)).toNatClampNeg), .int (xs (i3 + (nI 4)).toNatClampNeg), .int (xs (i3 + (nI 5)).toNatClampNeg)]) (rest := []) C M_X8_feed sv_L_13 rfl dL_law_118 rfl (Nat.le_of_ble_eq_true rfl) (by decide) (by decide) (by show nc + 0 ≤ 600000; omega) (by show ns + 0 ≤ 7302250; omega) wr w (fun v1 h1 w => ?_)
  refine zm_pop C rfl dL_law_121 ?_
  refine zm_aload_n C rfl 2 rfl dL_law_122 ?_
  refine zm_aload_n C rfl 0 rfl dL_law_123 ?_
  refine zm_iload_n C rfl 3 rfl dL_law_124 ?_
  refine zm_iconst (v := nI 1) C (by decide) dL_law_125 ?_
  refine zm_iadd C dL_law_126 ?_
  refine zm_scl C X9 dL_law_127 w.1 ?_
  replace w := w.2
  refine zm_aload_n C rfl 0 rfl dL_law_128 ?_
  refine zm_iload_n C rfl 3 rfl dL_law_129 ?_
  refine zm_iconst (v := nI 2) C (by decide) dL_law_130 ?_
  refine zm_iadd C dL_law_131 ?_
  refine zm_scl C X9 dL_law_132 w.1 ?_
  replace w := w.2
  refine zm_aload_n C rfl 0 rfl dL_law_133 ?_
  refine zm_iload_n C rfl 3 rfl dL_law_134 ?_
  refine zm_iconst (v := nI 3) C (by decide) dL_law_135 ?_
  refine zm_iadd C dL_law_136 ?_
  refine zm_scl C X9 dL_law_137 w.1 ?_
  replace w := w.2
  refine zm_aload_n C rfl 0 rfl dL_law_138 ?_
  refine zm_iload_n C rfl 3 rfl dL_law_139 ?_
  refine zm_iconst (v := nI 4) C (by decide) dL_law_140 ?_
  refine zm_iadd C dL_law_141 ?_
  refine zm_scl C X9 dL_law_142 w.1 ?_
  replace w := w.2
  refine zm_aload_n C rfl 0 rfl dL_law_143 ?_
  refine zm_iload_n C rfl 3 rfl dL_law_144 ?_
  refine zm_iconst (v := nI 5) C (by decide) dL_law_145 ?_
  refine zm_iadd C dL_law_146 ?_
  refine zm_scl C X9 dL_law_147 w.1 ?_
  replace w := w.2
  obtain ⟨wr, w⟩ := w
  refine zm_Vi (As := [.int (xs (i3 + (nI 1)).toNatClampNeg), .int (xs (i3 + (nI 2)).toNatClampNeg), .int (xs (i3 + (nI 3)).toNatClampNeg), .int (xs (i3 + (nI 4)).toNatClampNeg), .int (xs (i3 + (nI 5)).toNatClampNeg)]) (rest := []) C M_X9_feed sv_L_17 rfl dL_law_148 rfl (Nat.le_of_ble_eq_true rfl) (by decide) (by decide) (by show nc + 0 ≤ 600000; omega) (by show ns + 0 ≤ 7302250; omega) wr w (fun v2 h2 w => ?_)
  refine zm_pop C rfl dL_law_151 ?_
  refine zm_goto (tgt := 373) C dL_law_152 (by decide) ?_
  exact w
set_option maxRecDepth 20000 in
theorem B_L_law_155 {E : zm_E} {K : zm_K} {nc ns : Nat} (C : zm_Cx E K cL_law RL 9 196 600000 7302250 4) {a0 n9 : Nat} {xs : Nat → Int32} (X9 : zm_sX E a0 n9 xs) (Z9 : zm_lZ E a0)  {a1 : Nat} {a2 : Nat} {i3 : Int32} {h : zm_H} (hnc : nc ≤ 600000) (hns : ns ≤ 7302250) (w : vp_in (i3 + (nI 1)) n9 ∧ zm_rc h a1 8 ∧ zm_ci K M_X8_end [.ref a1, .int (xs (i3 + (nI 1)).toNatClampNeg)] h fun v1 h1 => vp_in (i3 + (nI 1)) n9 ∧ zm_rc h1 a2 9 ∧ zm_ci K M_X9_end [.ref a2, .int (xs (i3 + (nI 1)).toNatClampNeg)] h1 fun v2 h2 => zm_Go E nc ns 373 [(0, .ref a0), (1, .ref a1), (2, .ref a2), (3, .int i3)] [] h2) : zm_Go E nc ns 155 [(0, .ref a0), (1, .ref a1), (2, .ref a2), (3, .int i3)] [] h := by
  refine zm_aload_n C rfl 1 rfl dL_law_155 ?_
  refine zm_aload_n C rfl 0 rfl dL_law_156 ?_
  refine zm_iload_n C rfl 3 rfl dL_law_157 ?_
  refine zm_iconst (v := nI 1) C (by decide) dL_law_158 ?_
  refine zm_iadd C dL_law_159 ?_
  refine zm_scl C X9 dL_law_160 w.1 ?_
  replace w := w.2
  obtain ⟨wr, w⟩ := w
  refine zm_Vi (As := [.int (xs (i3 + (nI 1)).toNatClampNeg)]) (rest := []) C M_X8_end sv_L_18 rfl dL_law_161 rfl (Nat.le_of_ble_eq_true rfl) (by decide) (by decide) (by show nc + 0 ≤ 600000; omega) (by show ns + 0 ≤ 7302250; omega) wr w (fun v1 h1 w => ?_)
  refine zm_pop C rfl dL_law_164 ?_
  refine zm_aload_n C rfl 2 rfl dL_law_165 ?_
  refine zm_aload_n C rfl 0 rfl dL_law_166 ?_
  refine zm_iload_n C rfl 3 rfl dL_law_167 ?_
  refine zm_iconst (v := nI 1) C (by decide) dL_law_168 ?_
  refine zm_iadd C dL_law_169 ?_
  refine zm_scl C X9 dL_law_170 w.1 ?_
  replace w := w.2
  obtain ⟨wr, w⟩ := w
  refine zm_Vi (As := [.int (xs (i3 + (nI 1)).toNatClampNeg)]) (rest := []) C M_X9_end sv_L_22 rfl dL_law_171 rfl (Nat.le_of_ble_eq_true rfl) (by decide) (by decide) (by show nc + 0 ≤ 600000; omega) (by show ns + 0 ≤ 7302250; omega) wr w (fun v2 h2 w => ?_)
  refine zm_pop C rfl dL_law_174 ?_
  refine zm_goto (tgt := 373) C dL_law_175 (by decide) ?_
  exact w
set_option maxRecDepth 20000 in
theorem B_L_law_178 {E : zm_E} {K : zm_K} {nc ns : Nat} (C : zm_Cx E K cL_law RL 9 196 600000 7302250 4) {a0 n9 : Nat} {xs : Nat → Int32} (X9 : zm_sX E a0 n9 xs) (Z9 : zm_lZ E a0)  {a1 : Nat} {a2 : Nat} {i3 : Int32} {h : zm_H} (hnc : nc ≤ 600000) (hns : ns ≤ 7302250) (w : vp_in (i3 + (nI 1)) n9 ∧ zm_rc h a1 8 ∧ zm_ci K M_X8_add [.ref a1, .int (xs (i3 + (nI 1)).toNatClampNeg)] h fun v1 h1 => vp_in (i3 + (nI 1)) n9 ∧ zm_rc h1 a2 9 ∧ zm_ci K M_X9_add [.ref a2, .int (xs (i3 + (nI 1)).toNatClampNeg)] h1 fun v2 h2 => zm_Go E nc ns 373 [(0, .ref a0), (1, .ref a1), (2, .ref a2), (3, .int i3)] [] h2) : zm_Go E nc ns 178 [(0, .ref a0), (1, .ref a1), (2, .ref a2), (3, .int i3)] [] h := by
  refine zm_aload_n C rfl 1 rfl dL_law_178 ?_
  refine zm_aload_n C rfl 0 rfl dL_law_179 ?_
  refine zm_iload_n C rfl 3 rfl dL_law_180 ?_
  refine zm_iconst (v := nI 1) C (by decide) dL_law_181 ?_
  refine zm_iadd C dL_law_182 ?_
  refine zm_scl C X9 dL_law_183 w.1 ?_
  replace w := w.2
  obtain ⟨wr, w⟩ := w
  refine zm_Vi (As := [.int (xs (i3 + (nI 1)).toNatClampNeg)]) (rest := []) C M_X8_add sv_L_23 rfl dL_law_184 rfl (Nat.le_of_ble_eq_true rfl) (by decide) (by decide) (by show nc + 0 ≤ 600000; omega) (by show ns + 0 ≤ 7302250; omega) wr w (fun v1 h1 w => ?_)
  refine zm_pop C rfl dL_law_187 ?_
  refine zm_aload_n C rfl 2 rfl dL_law_188 ?_
  refine zm_aload_n C rfl 0 rfl dL_law_189 ?_
  refine zm_iload_n C rfl 3 rfl dL_law_190 ?_
  refine zm_iconst (v := nI 1) C (by decide) dL_law_191 ?_
  refine zm_iadd C dL_law_192 ?_
  refine zm_scl C X9 dL_law_193 w.1 ?_
  replace w := w.2
  obtain ⟨wr, w⟩ := w
  refine zm_Vi (As := [.int (xs (i3 + (nI 1)).toNatClampNeg)]) (rest := []) C M_X9_add sv_L_26 rfl dL_law_194 rfl (Nat.le_of_ble_eq_true rfl) (by decide) (by decide) (by show nc + 0 ≤ 600000; omega) (by show ns + 0 ≤ 7302250; omega) wr w (fun v2 h2 w => ?_)
  refine zm_pop C rfl dL_law_197 ?_
  refine zm_goto (tgt := 373) C dL_law_198 (by decide) ?_
  exact w
set_option maxRecDepth 20000 in
theorem B_L_law_201 {E : zm_E} {K : zm_K} {nc ns : Nat} (C : zm_Cx E K cL_law RL 9 196 600000 7302250 4) {a0 n9 : Nat} {xs : Nat → Int32} (X9 : zm_sX E a0 n9 xs) (Z9 : zm_lZ E a0)  {a1 : Nat} {a2 : Nat} {i3 : Int32} {h : zm_H} (hnc : nc ≤ 600000) (hns : ns ≤ 7302250) (w : zm_rc h a1 8 ∧ zm_cv K M_X8_clear [.ref a1] h fun h1 => zm_rc h1 a2 9 ∧ zm_cv K M_X9_clear [.ref a2] h1 fun h2 => zm_Go E nc ns 373 [(0, .ref a0), (1, .ref a1), (2, .ref a2), (3, .int i3)] [] h2) : zm_Go E nc ns 201 [(0, .ref a0), (1, .ref a1), (2, .ref a2), (3, .int i3)] [] h := by
  refine zm_aload_n C rfl 1 rfl dL_law_201 ?_
  obtain ⟨wr, w⟩ := w
  refine zm_Vv (As := []) (rest := []) C M_X8_clear sv_L_27 rfl dL_law_202 rfl (Nat.le_of_ble_eq_true rfl) (by decide) (by decide) (by show nc + 0 ≤ 600000; omega) (by show ns + 0 ≤ 7302250; omega) wr w (fun h1 w => ?_)
  refine zm_aload_n C rfl 2 rfl dL_law_205 ?_
  obtain ⟨wr, w⟩ := w
  refine zm_Vv (As := []) (rest := []) C M_X9_clear sv_L_30 rfl dL_law_206 rfl (Nat.le_of_ble_eq_true rfl) (by decide) (by decide) (by show nc + 0 ≤ 600000; omega) (by show ns + 0 ≤ 7302250; omega) wr w (fun h2 w => ?_)
  refine zm_goto (tgt := 373) C dL_law_209 (by decide) ?_
  exact w
set_option maxRecDepth 20000 in
theorem B_L_law_212 {E : zm_E} {K : zm_K} {nc ns : Nat} (C : zm_Cx E K cL_law RL 9 196 600000 7302250 4) {a0 n9 : Nat} {xs : Nat → Int32} (X9 : zm_sX E a0 n9 xs) (Z9 : zm_lZ E a0)  {a1 : Nat} {a2 : Nat} {i3 : Int32} {h : zm_H} (hnc : nc ≤ 600000) (hns : ns ≤ 7302250) (w : vp_in (i3 + (nI 1)) n9 ∧ zm_rc h a1 8 ∧ zm_ci K M_X8_write [.ref a1, .int (xs (i3 + (nI 1)).toNatClampNeg)] h fun v1 h1 => vp_in (i3 + (nI 1)) n9 ∧ zm_rc h1 a2 9 ∧ zm_ci K M_X9_write [.ref a2, .int (xs (i3 + (nI 1)).toNatClampNeg)] h1 fun v2 h2 => zm_Go E nc ns 373 [(0, .ref a0), (1, .ref a1), (2, .ref a2), (3, .int i3)] [] h2) : zm_Go E nc ns 212 [(0, .ref a0), (1, .ref a1), (2, .ref a2), (3, .int i3)] [] h := by
  refine zm_aload_n C rfl 1 rfl dL_law_212 ?_
  refine zm_aload_n C rfl 0 rfl dL_law_213 ?_
  refine zm_iload_n C rfl 3 rfl dL_law_214 ?_
  refine zm_iconst (v := nI 1) C (by decide) dL_law_215 ?_
  refine zm_iadd C dL_law_216 ?_
  refine zm_scl C X9 dL_law_217 w.1 ?_
  replace w := w.2
  obtain ⟨wr, w⟩ := w
  refine zm_Vi (As := [.int (xs (i3 + (nI 1)).toNatClampNeg)]) (rest := []) C M_X8_write sv_L_31 rfl dL_law_218 rfl (Nat.le_of_ble_eq_true rfl) (by decide) (by decide) (by show nc + 0 ≤ 600000; omega) (by show ns + 0 ≤ 7302250; omega) wr w (fun v1 h1 w => ?_)
  refine zm_pop C rfl dL_law_221 ?_
  refine zm_aload_n C rfl 2 rfl dL_law_222 ?_
  refine zm_aload_n C rfl 0 rfl dL_law_223 ?_
  refine zm_iload_n C rfl 3 rfl dL_law_224 ?_
  refine zm_iconst (v := nI 1) C (by decide) dL_law_225 ?_
  refine zm_iadd C dL_law_226 ?_
  refine zm_scl C X9 dL_law_227 w.1 ?_
  replace w := w.2
  obtain ⟨wr, w⟩ := w
  refine zm_Vi (As := [.int (xs (i3 + (nI 1)).toNatClampNeg)]) (rest := []) C M_X9_write sv_L_35 rfl dL_law_228 rfl (Nat.le_of_ble_eq_true rfl) (by decide) (by decide) (by show nc + 0 ≤ 600000; omega) (by show ns + 0 ≤ 7302250; omega) wr w (fun v2 h2 w => ?_)
  refine zm_pop C rfl dL_law_231 ?_
  refine zm_goto (tgt := 373) C dL_law_232 (by decide) ?_
  exact w
set_option maxRecDepth 20000 in
theorem B_L_law_235 {E : zm_E} {K : zm_K} {nc ns : Nat} (C : zm_Cx E K cL_law RL 9 196 600000 7302250 4) {a0 n9 : Nat} {xs : Nat → Int32} (X9 : zm_sX E a0 n9 xs) (Z9 : zm_lZ E a0)  {a1 : Nat} {a2 : Nat} {i3 : Int32} {h : zm_H} (hnc : nc ≤ 600000) (hns : ns ≤ 7302250) (w : vp_in (i3 + (nI 1)) n9 ∧ vp_in (i3 + (nI 2)) n9 ∧ zm_rc h a1 8 ∧ zm_ci K M_X8_read [.ref a1, .int (xs (i3 + (nI 1)).toNatClampNeg), .int (xs (i3 + (nI 2)).toNatClampNeg)] h fun v1 h1 => vp_in (i3 + (nI 1)) n9 ∧ vp_in (i3 + (nI 2)) n9 ∧ zm_rc h1 a2 9 ∧ zm_ci K M_X9_read [.ref a2, .int (xs (i3 + (nI 1)).toNatClampNeg), .int (xs (i3 + (nI 2)).toNatClampNeg)] h1 fun v2 h2 => zm_Go E nc ns 373 [(0, .ref a0), (1, .ref a1), (2, .ref a2), (3, .int i3)] [] h2) : zm_Go E nc ns 235 [(0, .ref a0), (1, .ref a1), (2, .ref a2), (3, .int i3)] [] h := by
  refine zm_aload_n C rfl 1 rfl dL_law_235 ?_
  refine zm_aload_n C rfl 0 rfl dL_law_236 ?_
  refine zm_iload_n C rfl 3 rfl dL_law_237 ?_
  refine zm_iconst (v := nI 1) C (by decide) dL_law_238 ?_
  refine zm_iadd C dL_law_239 ?_
  refine zm_scl C X9 dL_law_240 w.1 ?_
  replace w := w.2
  refine zm_aload_n C rfl 0 rfl dL_law_241 ?_
  refine zm_iload_n C rfl 3 rfl dL_law_242 ?_
  refine zm_iconst (v := nI 2) C (by decide) dL_law_243 ?_
  refine zm_iadd C dL_law_244 ?_
  refine zm_scl C X9 dL_law_245 w.1 ?_
  replace w := w.2
  obtain ⟨wr, w⟩ := w
  refine zm_Vi (As := [.int (xs (i3 + (nI 1)).toNatClampNeg), .int (xs (i3 + (nI 2)).toNatClampNeg)]) (rest := []) C M_X8_read sv_L_36 rfl dL_law_246 rfl (Nat.le_of_ble_eq_true rfl) (by decide) (by decide) (by show nc + 0 ≤ 600000; omega) (by show ns + 0 ≤ 7302250; omega) wr w (fun v1 h1 w => ?_)
  refine zm_pop C rfl dL_law_249 ?_
  refine zm_aload_n C rfl 2 rfl dL_law_250 ?_
  refine zm_aload_n C rfl 0 rfl dL_law_251 ?_
  refine zm_iload_n C rfl 3 rfl dL_law_252 ?_
  refine zm_iconst (v := nI 1) C (by decide) dL_law_253 ?_
  refine zm_iadd C dL_law_254 ?_
  refine zm_scl C X9 dL_law_255 w.1 ?_
  replace w := w.2
  refine zm_aload_n C rfl 0 rfl dL_law_256 ?_
  refine zm_iload_n C rfl 3 rfl dL_law_257 ?_
  refine zm_iconst (v := nI 2) C (by decide) dL_law_258 ?_
  refine zm_iadd C dL_law_259 ?_
  refine zm_scl C X9 dL_law_260 w.1 ?_
  replace w := w.2
  obtain ⟨wr, w⟩ := w
  refine zm_Vi (As := [.int (xs (i3 + (nI 1)).toNatClampNeg), .int (xs (i3 + (nI 2)).toNatClampNeg)]) (rest := []) C M_X9_read sv_L_40 rfl dL_law_261 rfl (Nat.le_of_ble_eq_true rfl) (by decide) (by decide) (by show nc + 0 ≤ 600000; omega) (by show ns + 0 ≤ 7302250; omega) wr w (fun v2 h2 w => ?_)
  refine zm_pop C rfl dL_law_264 ?_
  refine zm_goto (tgt := 373) C dL_law_265 (by decide) ?_
  exact w
set_option maxRecDepth 20000 in
theorem B_L_law_268 {E : zm_E} {K : zm_K} {nc ns : Nat} (C : zm_Cx E K cL_law RL 9 196 600000 7302250 4) {a0 n9 : Nat} {xs : Nat → Int32} (X9 : zm_sX E a0 n9 xs) (Z9 : zm_lZ E a0)  {a1 : Nat} {a2 : Nat} {i3 : Int32} {h : zm_H} (hnc : nc ≤ 600000) (hns : ns ≤ 7302250) (w : zm_rc h a1 8 ∧ zm_ci K M_X8_turn [.ref a1] h fun v1 h1 => zm_rc h1 a2 9 ∧ zm_ci K M_X9_turn [.ref a2] h1 fun v2 h2 => (v1 = v2 → zm_Go E nc ns 373 [(0, .ref a0), (1, .ref a1), (2, .ref a2), (3, .int i3)] [] h2) ∧ (¬ v1 = v2 → (nI 0) = nI 1)) : zm_Go E nc ns 268 [(0, .ref a0), (1, .ref a1), (2, .ref a2), (3, .int i3)] [] h := by
  refine zm_aload_n C rfl 1 rfl dL_law_268 ?_
  obtain ⟨wr, w⟩ := w
  refine zm_Vi (As := []) (rest := []) C M_X8_turn sv_L_41 rfl dL_law_269 rfl (Nat.le_of_ble_eq_true rfl) (by decide) (by decide) (by show nc + 0 ≤ 600000; omega) (by show ns + 0 ≤ 7302250; omega) wr w (fun v1 h1 w => ?_)
  refine zm_aload_n C rfl 2 rfl dL_law_272 ?_
  obtain ⟨wr, w⟩ := w
  refine zm_Vi (As := []) (rest := [.int v1]) C M_X9_turn sv_L_45 rfl dL_law_273 rfl (Nat.le_of_ble_eq_true rfl) (by decide) (by decide) (by show nc + 0 ≤ 600000; omega) (by show ns + 0 ≤ 7302250; omega) wr w (fun v2 h2 w => ?_)
  refine zm_icmp_eq (tgt := 373) C dL_law_276 (by decide) (fun z => ?_) (fun z => ?_)
  · replace w := w.1 z
    exact w
  · replace w := w.2 z
    refine zm_iconst (v := nI 0) C (by decide) dL_law_279 ?_
    exact zm_lend C Z9 (by show nc ≤ 600000; omega) (by show ns ≤ 7302250; omega) dL_law_280 w
set_option maxRecDepth 20000 in
theorem B_L_law_281 {E : zm_E} {K : zm_K} {nc ns : Nat} (C : zm_Cx E K cL_law RL 9 196 600000 7302250 4) {a0 n9 : Nat} {xs : Nat → Int32} (X9 : zm_sX E a0 n9 xs) (Z9 : zm_lZ E a0)  {a1 : Nat} {a2 : Nat} {i3 : Int32} {h : zm_H} (hnc : nc ≤ 600000) (hns : ns ≤ 7302250) (w : zm_rc h a1 8 ∧ zm_ci K M_X8_size [.ref a1] h fun v1 h1 => zm_rc h1 a2 9 ∧ zm_ci K M_X9_size [.ref a2] h1 fun v2 h2 => zm_Go E nc ns 373 [(0, .ref a0), (1, .ref a1), (2, .ref a2), (3, .int i3)] [] h2) : zm_Go E nc ns 281 [(0, .ref a0), (1, .ref a1), (2, .ref a2), (3, .int i3)] [] h := by
  refine zm_aload_n C rfl 1 rfl dL_law_281 ?_
  obtain ⟨wr, w⟩ := w
  refine zm_Vi (As := []) (rest := []) C M_X8_size sv_L_46 rfl dL_law_282 rfl (Nat.le_of_ble_eq_true rfl) (by decide) (by decide) (by show nc + 0 ≤ 600000; omega) (by show ns + 0 ≤ 7302250; omega) wr w (fun v1 h1 w => ?_)
  refine zm_pop C rfl dL_law_285 ?_
  refine zm_aload_n C rfl 2 rfl dL_law_286 ?_
  obtain ⟨wr, w⟩ := w
  refine zm_Vi (As := []) (rest := []) C M_X9_size sv_L_50 rfl dL_law_287 rfl (Nat.le_of_ble_eq_true rfl) (by decide) (by decide) (by show nc + 0 ≤ 600000; omega) (by show ns + 0 ≤ 7302250; omega) wr w (fun v2 h2 w => ?_)
  refine zm_pop C rfl dL_law_290 ?_
  refine zm_goto (tgt := 373) C dL_law_291 (by decide) ?_
  exact w
set_option maxRecDepth 20000 in
theorem B_L_law_294 {E : zm_E} {K : zm_K} {nc ns : Nat} (C : zm_Cx E K cL_law RL 9 196 600000 7302250 4) {a0 n9 : Nat} {xs : Nat → Int32} (X9 : zm_sX E a0 n9 xs) (Z9 : zm_lZ E a0)  {a1 : Nat} {a2 : Nat} {i3 : Int32} {h : zm_H} (hnc : nc ≤ 600000) (hns : ns ≤ 7302250) (w : vp_in (i3 + (nI 1)) n9 ∧ zm_rc h a1 8 ∧ zm_ci K M_X8_length [.ref a1, .int (xs (i3 + (nI 1)).toNatClampNeg)] h fun v1 h1 => vp_in (i3 + (nI 1)) n9 ∧ zm_rc h1 a2 9 ∧ zm_ci K M_X9_length [.ref a2, .int (xs (i3 + (nI 1)).toNatClampNeg)] h1 fun v2 h2 => zm_Go E nc ns 373 [(0, .ref a0), (1, .ref a1), (2, .ref a2), (3, .int i3)] [] h2) : zm_Go E nc ns 294 [(0, .ref a0), (1, .ref a1), (2, .ref a2), (3, .int i3)] [] h := by
  refine zm_aload_n C rfl 1 rfl dL_law_294 ?_
  refine zm_aload_n C rfl 0 rfl dL_law_295 ?_
  refine zm_iload_n C rfl 3 rfl dL_law_296 ?_
  refine zm_iconst (v := nI 1) C (by decide) dL_law_297 ?_
  refine zm_iadd C dL_law_298 ?_
  refine zm_scl C X9 dL_law_299 w.1 ?_
  replace w := w.2
  obtain ⟨wr, w⟩ := w
  refine zm_Vi (As := [.int (xs (i3 + (nI 1)).toNatClampNeg)]) (rest := []) C M_X8_length sv_L_51 rfl dL_law_300 rfl (Nat.le_of_ble_eq_true rfl) (by decide) (by decide) (by show nc + 0 ≤ 600000; omega) (by show ns + 0 ≤ 7302250; omega) wr w (fun v1 h1 w => ?_)
  refine zm_pop C rfl dL_law_303 ?_
  refine zm_aload_n C rfl 2 rfl dL_law_304 ?_
  refine zm_aload_n C rfl 0 rfl dL_law_305 ?_
  refine zm_iload_n C rfl 3 rfl dL_law_306 ?_
  refine zm_iconst (v := nI 1) C (by decide) dL_law_307 ?_
  refine zm_iadd C dL_law_308 ?_
  refine zm_scl C X9 dL_law_309 w.1 ?_
  replace w := w.2
  obtain ⟨wr, w⟩ := w
  refine zm_Vi (As := [.int (xs (i3 + (nI 1)).toNatClampNeg)]) (rest := []) C M_X9_length sv_L_54 rfl dL_law_310 rfl (Nat.le_of_ble_eq_true rfl) (by decide) (by decide) (by show nc + 0 ≤ 600000; omega) (by show ns + 0 ≤ 7302250; omega) wr w (fun v2 h2 w => ?_)
  refine zm_pop C rfl dL_law_313 ?_
  refine zm_goto (tgt := 373) C dL_law_314 (by decide) ?_
  exact w
set_option maxRecDepth 20000 in
theorem B_L_law_317 {E : zm_E} {K : zm_K} {nc ns : Nat} (C : zm_Cx E K cL_law RL 9 196 600000 7302250 4) {a0 n9 : Nat} {xs : Nat → Int32} (X9 : zm_sX E a0 n9 xs) (Z9 : zm_lZ E a0)  {a1 : Nat} {a2 : Nat} {i3 : Int32} {h : zm_H} (hnc : nc ≤ 600000) (hns : ns ≤ 7302250) (w : vp_in (i3 + (nI 1)) n9 ∧ vp_in (i3 + (nI 2)) n9 ∧ zm_rc h a1 8 ∧ zm_ci K M_X8_byteOf [.ref a1, .int (xs (i3 + (nI 1)).toNatClampNeg), .int (xs (i3 + (nI 2)).toNatClampNeg)] h fun v1 h1 => vp_in (i3 + (nI 1)) n9 ∧ vp_in (i3 + (nI 2)) n9 ∧ zm_rc h1 a2 9 ∧ zm_ci K M_X9_byteOf [.ref a2, .int (xs (i3 + (nI 1)).toNatClampNeg), .int (xs (i3 + (nI 2)).toNatClampNeg)] h1 fun v2 h2 => zm_Go E nc ns 373 [(0, .ref a0), (1, .ref a1), (2, .ref a2), (3, .int i3)] [] h2) : zm_Go E nc ns 317 [(0, .ref a0), (1, .ref a1), (2, .ref a2), (3, .int i3)] [] h := by
  refine zm_aload_n C rfl 1 rfl dL_law_317 ?_
  refine zm_aload_n C rfl 0 rfl dL_law_318 ?_
  refine zm_iload_n C rfl 3 rfl dL_law_319 ?_
  refine zm_iconst (v := nI 1) C (by decide) dL_law_320 ?_
  refine zm_iadd C dL_law_321 ?_
  refine zm_scl C X9 dL_law_322 w.1 ?_
  replace w := w.2
  refine zm_aload_n C rfl 0 rfl dL_law_323 ?_
  refine zm_iload_n C rfl 3 rfl dL_law_324 ?_
  refine zm_iconst (v := nI 2) C (by decide) dL_law_325 ?_
  refine zm_iadd C dL_law_326 ?_
  refine zm_scl C X9 dL_law_327 w.1 ?_
  replace w := w.2
  obtain ⟨wr, w⟩ := w
  refine zm_Vi (As := [.int (xs (i3 + (nI 1)).toNatClampNeg), .int (xs (i3 + (nI 2)).toNatClampNeg)]) (rest := []) C M_X8_byteOf sv_L_55 rfl dL_law_328 rfl (Nat.le_of_ble_eq_true rfl) (by decide) (by decide) (by show nc + 0 ≤ 600000; omega) (by show ns + 0 ≤ 7302250; omega) wr w (fun v1 h1 w => ?_)
  refine zm_pop C rfl dL_law_331 ?_
  refine zm_aload_n C rfl 2 rfl dL_law_332 ?_
  refine zm_aload_n C rfl 0 rfl dL_law_333 ?_
  refine zm_iload_n C rfl 3 rfl dL_law_334 ?_
  refine zm_iconst (v := nI 1) C (by decide) dL_law_335 ?_
  refine zm_iadd C dL_law_336 ?_
  refine zm_scl C X9 dL_law_337 w.1 ?_
  replace w := w.2
  refine zm_aload_n C rfl 0 rfl dL_law_338 ?_
  refine zm_iload_n C rfl 3 rfl dL_law_339 ?_
  refine zm_iconst (v := nI 2) C (by decide) dL_law_340 ?_
  refine zm_iadd C dL_law_341 ?_
  refine zm_scl C X9 dL_law_342 w.1 ?_
  replace w := w.2
  obtain ⟨wr, w⟩ := w
  refine zm_Vi (As := [.int (xs (i3 + (nI 1)).toNatClampNeg), .int (xs (i3 + (nI 2)).toNatClampNeg)]) (rest := []) C M_X9_byteOf sv_L_58 rfl dL_law_343 rfl (Nat.le_of_ble_eq_true rfl) (by decide) (by decide) (by show nc + 0 ≤ 600000; omega) (by show ns + 0 ≤ 7302250; omega) wr w (fun v2 h2 w => ?_)
  refine zm_pop C rfl dL_law_346 ?_
  refine zm_goto (tgt := 373) C dL_law_347 (by decide) ?_
  exact w
set_option maxRecDepth 20000 in
theorem B_L_law_350 {E : zm_E} {K : zm_K} {nc ns : Nat} (C : zm_Cx E K cL_law RL 9 196 600000 7302250 4) {a0 n9 : Nat} {xs : Nat → Int32} (X9 : zm_sX E a0 n9 xs) (Z9 : zm_lZ E a0)  {a1 : Nat} {a2 : Nat} {i3 : Int32} {h : zm_H} (hnc : nc ≤ 600000) (hns : ns ≤ 7302250) (w : vp_in (i3 + (nI 1)) n9 ∧ zm_rc h a1 8 ∧ zm_ci K M_X8_output [.ref a1, .int (xs (i3 + (nI 1)).toNatClampNeg)] h fun v1 h1 => vp_in (i3 + (nI 1)) n9 ∧ zm_rc h1 a2 9 ∧ zm_ci K M_X9_output [.ref a2, .int (xs (i3 + (nI 1)).toNatClampNeg)] h1 fun v2 h2 => zm_Go E nc ns 373 [(0, .ref a0), (1, .ref a1), (2, .ref a2), (3, .int i3)] [] h2) : zm_Go E nc ns 350 [(0, .ref a0), (1, .ref a1), (2, .ref a2), (3, .int i3)] [] h := by
  refine zm_aload_n C rfl 1 rfl dL_law_350 ?_
  refine zm_aload_n C rfl 0 rfl dL_law_351 ?_
  refine zm_iload_n C rfl 3 rfl dL_law_352 ?_
  refine zm_iconst (v := nI 1) C (by decide) dL_law_353 ?_
  refine zm_iadd C dL_law_354 ?_
  refine zm_scl C X9 dL_law_355 w.1 ?_
  replace w := w.2
  obtain ⟨wr, w⟩ := w
  refine zm_Vi (As := [.int (xs (i3 + (nI 1)).toNatClampNeg)]) (rest := []) C M_X8_output sv_L_59 rfl dL_law_356 rfl (Nat.le_of_ble_eq_true rfl) (by decide) (by decide) (by show nc + 0 ≤ 600000; omega) (by show ns + 0 ≤ 7302250; omega) wr w (fun v1 h1 w => ?_)
  refine zm_pop C rfl dL_law_359 ?_
  refine zm_aload_n C rfl 2 rfl dL_law_360 ?_
  refine zm_aload_n C rfl 0 rfl dL_law_361 ?_
  refine zm_iload_n C rfl 3 rfl dL_law_362 ?_
  refine zm_iconst (v := nI 1) C (by decide) dL_law_363 ?_
  refine zm_iadd C dL_law_364 ?_
  refine zm_scl C X9 dL_law_365 w.1 ?_
  replace w := w.2
  obtain ⟨wr, w⟩ := w
  refine zm_Vi (As := [.int (xs (i3 + (nI 1)).toNatClampNeg)]) (rest := []) C M_X9_output sv_L_62 rfl dL_law_366 rfl (Nat.le_of_ble_eq_true rfl) (by decide) (by decide) (by show nc + 0 ≤ 600000; omega) (by show ns + 0 ≤ 7302250; omega) wr w (fun v2 h2 w => ?_)
  refine zm_pop C rfl dL_law_369 ?_
  refine zm_goto (tgt := 373) C dL_law_370 (by decide) ?_
  exact w
set_option maxRecDepth 20000 in
theorem B_L_law_373 {E : zm_E} {K : zm_K} {nc ns : Nat} (C : zm_Cx E K cL_law RL 9 196 600000 7302250 4) {a0 n9 : Nat} {xs : Nat → Int32} (X9 : zm_sX E a0 n9 xs) (Z9 : zm_lZ E a0)  {a1 : Nat} {a2 : Nat} {i3 : Int32} {h : zm_H} (w : zm_Go E nc ns 18 [(0, .ref a0), (1, .ref a1), (2, .ref a2), (3, .int (i3 + (nI 6)))] [] h) : zm_Go E nc ns 373 [(0, .ref a0), (1, .ref a1), (2, .ref a2), (3, .int i3)] [] h := by
  refine zm_iinc (L' := [(0, .ref a0), (1, .ref a1), (2, .ref a2), (3, .int (i3 + (nI 6)))]) C (by decide) 3 [1, 2, 3, 0] dL_law_373 rfl rfl rfl ?_
  refine zm_goto (tgt := 18) C dL_law_376 (by decide) ?_
  exact w
