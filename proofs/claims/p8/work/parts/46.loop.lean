set_option maxRecDepth 20000 in
theorem lw_loop {E : zm_E} {K : zm_K} {nc ns : Nat} (C : zm_Cx E K cL_law RL 9 196 600000 7302250 4) {b n : Nat} {xs : Nat → Int32} (X9 : zm_sX E b n xs) (Z9 : zm_lZ E b) (hn : n ≤ 3072) (hnc : nc ≤ 600000) (hns : ns ≤ 7302250) {ad ad' : Nat → Nat} : ∀ (k i : Nat) (h : zm_H), n ≤ i + k → i ≤ n → (∃ T, lwJ K ad ad' T T h) → zm_Go E nc ns 18 [(0, .ref b), (1, .ref (ad 0)), (2, .ref (ad' 0)), (3, .int (nI i))] [] h := by
  intro k
  induction k with
  | zero =>
    intro i h hk hi _
    refine B_L_law_18 C X9 Z9 hnc hns ⟨fun _ => rfl, fun g => ?_⟩
    have g1 : nI i ≤ nI n - nI 6 := Int32.not_lt.mp g
    have g2 := (zle_sub (by omega) (by omega) (by decide)).mp g1
    omega
  | succ k ih =>
    intro i h hk hi J
    refine B_L_law_18 C X9 Z9 hnc hns ⟨fun _ => rfl, fun g => ?_⟩
    have g1 : nI i ≤ nI n - nI 6 := Int32.not_lt.mp g
    have g2 := (zle_sub (by omega) (by omega) (by decide)).mp g1
    have hb : n < 2 ^ 31 := by omega
    have nx : ∀ h', (∃ T, lwJ K ad ad' T T h') → zm_Go E nc ns 373 [(0, .ref b), (1, .ref (ad 0)), (2, .ref (ad' 0)), (3, .int (nI i))] [] h' := fun h' J' => B_L_law_373 C X9 Z9 (by rw [nI_add]; exact ih (i + 6) h' (by omega) (by omega) J')
    have i1 : vp_in (nI i + nI 1) n := lw_in (by omega) hb
    have i2 : vp_in (nI i + nI 2) n := lw_in (by omega) hb
    have i3 : vp_in (nI i + nI 3) n := lw_in (by omega) hb
    have i4 : vp_in (nI i + nI 4) n := lw_in (by omega) hb
    have i5 : vp_in (nI i + nI 5) n := lw_in (by omega) hb
    obtain ⟨T, J⟩ := J
    refine ⟨vp_in_nI (by omega) hb, fun _ => ?_, fun _ => ?_, fun _ => ?_, fun _ => ?_, fun _ => ?_, fun _ => ?_, fun _ => ?_, fun _ => ?_, fun _ => ?_, fun _ => ?_, fun _ => ?_, fun _ _ _ _ _ _ _ _ _ _ _ => nx h ⟨T, J⟩⟩
    · exact B_L_law_92 C X9 Z9 hnc hns ⟨i1, i2, i3, i4, i5, lw_X_feed J fun x T1 h1 p1 J1 => ⟨i1, i2, i3, i4, i5, lw_M_feed J1 fun y T2 h2 p2 J2 => nx h2 (J2.eq (p1.eq p2).2)⟩⟩
    · exact B_L_law_155 C X9 Z9 hnc hns ⟨i1, lw_X_end J fun x T1 h1 p1 J1 => ⟨i1, lw_M_end J1 fun y T2 h2 p2 J2 => nx h2 (J2.eq (p1.eq p2).2)⟩⟩
    · exact B_L_law_178 C X9 Z9 hnc hns ⟨i1, lw_X_add J fun x T1 h1 p1 J1 => ⟨i1, lw_M_add J1 fun y T2 h2 p2 J2 => nx h2 (J2.eq (p1.eq p2).2)⟩⟩
    · exact B_L_law_201 C X9 Z9 hnc hns (lw_X_clear J fun T1 h1 p1 J1 => lw_M_clear J1 fun T2 h2 p2 J2 => nx h2 (J2.eq (p1.eq p2).2))
    · exact B_L_law_212 C X9 Z9 hnc hns ⟨i1, lw_X_write J fun x T1 h1 p1 J1 => ⟨i1, lw_M_write J1 fun y T2 h2 p2 J2 => nx h2 (J2.eq (p1.eq p2).2)⟩⟩
    · exact B_L_law_235 C X9 Z9 hnc hns ⟨i1, i2, lw_X_read J fun x T1 h1 p1 J1 => ⟨i1, i2, lw_M_read J1 fun y T2 h2 p2 J2 => nx h2 (J2.eq (p1.eq p2).2)⟩⟩
    · exact B_L_law_268 C X9 Z9 hnc hns (lw_X_turn J fun x T1 h1 p1 J1 => lw_M_turn J1 fun y T2 h2 p2 J2 => ⟨fun _ => nx h2 (J2.eq (p1.eq p2).2), fun z => absurd (p1.eq p2).1 z⟩)
    · exact B_L_law_281 C X9 Z9 hnc hns (lw_X_size J fun x T1 h1 p1 J1 => lw_M_size J1 fun y T2 h2 p2 J2 => nx h2 (J2.eq (p1.eq p2).2))
    · exact B_L_law_294 C X9 Z9 hnc hns ⟨i1, lw_X_length J fun x T1 h1 p1 J1 => ⟨i1, lw_M_length J1 fun y T2 h2 p2 J2 => nx h2 (J2.eq (p1.eq p2).2)⟩⟩
    · exact B_L_law_317 C X9 Z9 hnc hns ⟨i1, i2, lw_X_byteOf J fun x T1 h1 p1 J1 => ⟨i1, i2, lw_M_byteOf J1 fun y T2 h2 p2 J2 => nx h2 (J2.eq (p1.eq p2).2)⟩⟩
    · exact B_L_law_350 C X9 Z9 hnc hns ⟨i1, lw_X_output J fun x T1 h1 p1 J1 => ⟨i1, lw_M_output J1 fun y T2 h2 p2 J2 => nx h2 (J2.eq (p1.eq p2).2)⟩⟩
