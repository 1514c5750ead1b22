section ZNH
variable {K : zm_K} {ad : Nat → Nat} {s : mS} {h : zm_H} {T : Nat}
theorem r_read (X : zM K ad s h) (I : mI T s) {x y : Int32} : zm_Ct K M_X9_read [.ref (ad 0), .int x, .int y] h (poI K ad T) := by
  refine zm_meet (by decide) (Nat.le_of_ble_eq_true rfl) ?_
  intro E C Rt _
  refine B_X9_read_0 C Rt (Nat.le_refl 0) (Nat.le_refl 0) (X.pf 0 0 rfl (by decide) rfl fun h1 X1 => ?_)
  have no : zm_Go E 0 0 25 [] [] h1 := B_X9_read_25 C Rt (Nat.le_refl 0) (Nat.le_refl 0) ⟨⟨_, rfl⟩, _, X1, I.p0⟩
  refine ⟨fun _ => no, fun _ => ⟨fun _ => no, fun _ => ⟨fun _ => no, fun g2 => ⟨fun g3 => X1.pf 16 0 rfl (by decide) rfl fun h2 X2 => X2.pf 17 0 rfl (by decide) rfl fun h3 X3 => X3.pf 8 0 rfl (by decide) rfl fun h4 X4 => ?_, fun _ => no⟩⟩⟩⟩
  obtain ⟨n, hn, rfl⟩ := nI_of2 (M := nI 1000) (n := 1000) (by decide) g2 g3
  obtain ⟨i1, i2, i3, i4, i5, i6, i7, i8, i9, ⟨f, i10⟩, g, i11, i12⟩ := I
  have G4 : mG (s.fi 14) ((((s.pf 0 0).pf 16 0).pf 17 0).pf 8 0) := ⟨Nat.zero_le 7, fun _ => Nat.zero_le _⟩
  have N4 : mN ((((s.pf 0 0).pf 16 0).pf 17 0).pf 8 0) g := ⟨Nat.zero_le 1000, i11, i12, fun k hk => absurd (show k < 0 from hk) (by omega)⟩
  have Q4 : mK [0, 8, 9, 16, 17, 19] [2, 3, 5, 6, 20, 21, 22] s ((((s.pf 0 0).pf 16 0).pf 17 0).pf 8 0) := ((mK.pf (by decide)).trans (mK.pf (by decide))).trans ((mK.pf (by decide)).trans (mK.pf (by decide)))
  have c4 : ((((s.pf 0 0).pf 16 0).pf 17 0).pf 8 0).fi 19 ≤ 2000 := i5
  have z4 : ((((s.pf 0 0).pf 16 0).pf 17 0).pf 8 0).fi 8 = 0 := rfl
  have m4 : mB (((((s.pf 0 0).pf 16 0).pf 17 0).pf 8 0).ai 11) := i8
  have e4 : ((((s.pf 0 0).pf 16 0).pf 17 0).pf 8 0).fi 14 = s.fi 14 := rfl
  generalize (((s.pf 0 0).pf 16 0).pf 17 0).pf 8 0 = s4 at X4 G4 N4 Q4 c4 z4 m4 e4
  have k153 : ∀ (g5 : Nat → Nat) (m i : Nat) (s5 : mS) (h5 : zm_H), zM K ad s5 h5 → mK [0, 7, 8, 9, 16, 17, 19] [1, 2, 3, 4, 5, 6, 20, 21, 22] s s5 → s5.fi 17 ≤ 7 → s5.fi 19 ≤ 2000 → mN s5 g5 → s5.fi 7 = n → (∃ f, mRw s5 f) → i ≤ 20000 → 20000 - i < m → zm_Go E 0 0 153 [(0, .ref (ad 0)), (2, .int (nI n)), (3, .int (nI i))] [] h5 := by
    intro g5 m
    induction m with
    | zero => intro i s5 h5 _ _ _ _ _ _ _ _ z; omega
    | succ m ih =>
      intro i s5 h5 X5 Q5 h17 h19 N5 e7 R5 hi hm
      obtain ⟨f5, R5⟩ := R5
      have hf := R5.2.2.1 n
      refine B_X9_read_153 C Rt (Nat.le_refl 0) (Nat.le_refl 0) (X5.gR 1 rfl (X5.ld 1 n (by decide) (show n < 1001 by omega) rfl ?_))
      rw [R5.2.1]
      refine ⟨fun _ => ⟨⟨_, rfl⟩, s5, X5, (Q5.1 13 (by decide)).trans i1, i2, by rw [Q5.1 14 (by decide)]; exact i3, by rw [Q5.1 15 (by decide)]; exact i4, h19, h17, by rw [Q5.2 10 (by decide)]; exact i7, by rw [Q5.2 11 (by decide)]; exact i8, by rw [Q5.2 12 (by decide)]; exact i9, ⟨f5, R5⟩, g5, N5.2.1, N5.2.2.1⟩, fun q => ?_⟩
      have hi2 : i < f5 n := by
        rcases Nat.lt_or_ge i (f5 n) with w | w
        · exact w
        · exact absurd (nI_le w (by omega)) q
      refine X5.gR 4 rfl (X5.gR 5 rfl (X5.ld 5 i (by decide) (show i < 20000 by omega) rfl (X5.st 4 i (by decide) (show i < 20000 by omega) rfl fun h6 X6 => ?_)))
      rw [nI_add]
      exact ih (i + 1) _ h6 X6 (Q5.trans (mK.sa (by decide))) h17 h19 N5 e7 ⟨f5, R5⟩ (by omega) (by omega)
  have k128 : ∀ (g5 : Nat → Nat) (m k : Nat) (s5 : mS) (h5 : zm_H), zM K ad s5 h5 → mK [0, 7, 8, 9, 16, 17, 19] [1, 2, 3, 4, 5, 6, 20, 21, 22] s s5 → s5.fi 17 ≤ 7 → s5.fi 19 ≤ 2000 → mN s5 g5 → s5.fi 8 = n → s5.fi 7 = n → (∀ j, s5.ai 1 j = nI (if j < k then g5 j else f j)) → k ≤ n + 1 → n + 1 - k < m → zm_Go E 0 0 128 [(0, .ref (ad 0)), (2, .int (nI n)), (3, .int (nI k))] [] h5 := by
    intro g5 m
    induction m with
    | zero => intro k s5 h5 _ _ _ _ _ _ _ _ _ z; omega
    | succ m ih =>
      intro k s5 h5 X5 Q5 h17 h19 N5 e8 e7 A5 hk hm
      refine B_X9_read_128 C Rt ⟨fun q => ?_, fun q => ?_⟩
      · have hkn : n < k := (nI_ltI (by omega) (by omega)).mp q
        refine k153 g5 20001 0 s5 h5 X5 Q5 h17 h19 N5 e7 ⟨fun j => if j < k then g5 j else f j, by omega, A5, fun j => ?_, fun j hj => ?_⟩ (by omega) (by omega)
        · show (if j < k then g5 j else f j) ≤ 20000
          split
          · exact N5.2.2.1 j
          · exact i10.2.2.1 j
        · show (if j < k then g5 j else f j) ≤ (if j + 1 < k then g5 (j + 1) else f (j + 1)) ∧ (if j + 1 < k then g5 (j + 1) else f (j + 1)) ≤ (if j < k then g5 j else f j) + 255
          rw [if_pos (by omega), if_pos (by omega)]
          exact N5.2.2.2 j (by omega)
      · have hkn : k ≤ n := by
          rcases Nat.lt_or_ge n k with w | w
          · exact absurd (nI_lt w (by omega)) q
          · exact w
        refine X5.gR 1 rfl (X5.gR 2 rfl (X5.ld 2 k (by decide) (show k < 1001 by omega) rfl (X5.st 1 k (by decide) (show k < 1001 by omega) rfl fun h6 X6 => ?_)))
        rw [nI_add]
        refine ih (k + 1) _ h6 X6 (Q5.trans (mK.sa (by decide))) h17 h19 N5 e8 e7 (fun j => ?_) (by omega) (by omega)
        show upd (s5.ai 1) k (s5.ai 2 k) j = _
        by_cases w : j = k
        · rw [upd, if_pos w, if_pos (by omega), N5.2.1, w]
        · rw [upd, if_neg w, A5]
          by_cases w2 : j < k
          · rw [if_pos w2, if_pos (by omega)]
          · rw [if_neg w2, if_neg (by omega)]
  have k109 : ∀ (s5 : mS) (h5 : zm_H), zM K ad s5 h5 → mK [0, 8, 9, 16, 17, 19] [2, 3, 5, 6, 20, 21, 22] s s5 → mG (s.fi 14) s5 → s5.fi 19 ≤ 2000 → (∃ g, mN s5 g) → (s5.fi 17 = 0 → s5.fi 8 = n) → zm_Go E 0 0 109 [(0, .ref (ad 0)), (2, .int (nI n))] [] h5 := by
    intro s5 h5 X5 Q5 G5 c5 N5 P5
    obtain ⟨g5, N5⟩ := N5
    refine B_X9_read_109 C Rt (Nat.le_refl 0) (Nat.le_refl 0) (X5.gI 17 rfl ⟨fun z => X5.pf 7 n rfl (by decide) rfl fun h6 X6 => ?_, fun _ => X5.gI 17 rfl ⟨⟨_, rfl⟩, s5, X5, (Q5.1 13 (by decide)).trans i1, i2, by rw [Q5.1 14 (by decide)]; exact i3, by rw [Q5.1 15 (by decide)]; exact i4, c5, G5.1, by rw [Q5.2 10 (by decide)]; exact i7, by rw [Q5.2 11 (by decide)]; exact i8, by rw [Q5.2 12 (by decide)]; exact i9, ⟨f, i10.of (Q5.1 7 (by decide)) (Q5.2 1 (by decide))⟩, g5, N5.2.1, N5.2.2.1⟩⟩)
    refine k128 g5 1002 0 _ h6 X6 ((Q5.mono (by decide) (by decide)).trans (mK.pf (by decide))) G5.1 c5 N5 (P5 (G5.z.mp z)) rfl (fun j => ?_) (by omega) (by omega)
    show s5.ai 1 j = _
    rw [Q5.2 1 (by decide), i10.2.1, if_neg (by omega)]
  have k85 : ∀ (s5 : mS) (h5 : zm_H), zM K ad s5 h5 → mK [0, 8, 9, 16, 17, 19] [2, 3, 5, 6, 20, 21, 22] s s5 → mG (s.fi 14) s5 → s5.fi 19 ≤ 2000 → (∃ g, mN s5 g) → (s5.fi 17 = 0 → s5.fi 8 = n) → zm_Go E 0 0 85 [(0, .ref (ad 0)), (2, .int (nI n))] [] h5 := by
    intro s5 h5 X5 Q5 G5 c5 N5 P5
    have go := k109 s5 h5 X5 Q5 G5 c5 N5 P5
    exact B_X9_read_85 C Rt (X5.gI 17 rfl ⟨fun _ => go, fun _ => X5.gI 16 rfl (X5.gI 14 rfl ⟨fun _ => go, fun _ => X5.pf 17 6 rfl (by decide) rfl fun h6 X6 => k109 _ h6 X6 (Q5.trans (mK.pf (by decide))) (mG.flt (by decide) (by decide)) c5 N5 (fun w => absurd (show (6 : Nat) = 0 from w) (by decide))⟩)⟩)
  rw [← e4] at G4
  have hz4 : s4.fi 14 ≤ 24000 := by omega
  have call : ∀ (M : zm_M), zm_Ct K M [.ref (ad 0), .int (nI n)] h4 (poD K ad s4 n) → zm_rc h4 (ad 0) 9 ∧ zm_cv K M [.ref (ad 0), .int (nI n)] h4 fun h5 => zm_Go E 0 0 85 [(0, .ref (ad 0)), (2, .int (nI n))] [] h5 := by
    intro M hM
    refine ⟨X4.rc, _, hM, fun r h' p => ?_⟩
    obtain ⟨rfl, s5, X5, Q5, G5, c5, N5, P5⟩ := p
    rw [e4] at G5
    exact ⟨rfl, k85 s5 h' X5 (Q4.trans (Q5.mono (by decide) (by decide))) G5 c5 N5 P5⟩
  refine ⟨fun _ => ⟨fun _ => ⟨fun _ => call _ (r_readDictionary X4 m4 hz4 G4 c4 N4 z4 hn), fun _ => call _ (r_readFront X4 m4 hz4 G4 c4 N4 z4 hn)⟩, fun _ => call _ (r_readLengths X4 m4 hz4 G4 c4 N4 z4 hn)⟩, fun _ => ⟨X4.rc, _, r_readPlain X4 hz4 G4 N4 (n := n) (by omega), fun r h' p => ?_⟩⟩
  obtain ⟨rfl, s5, X5, Q5, L5, G5, N5, P5⟩ := p
  rw [e4] at G5
  exact ⟨rfl, k85 s5 h' X5 (Q4.trans (Q5.mono (by decide) (by decide))) G5 (by rw [Q5.1 19 (by decide)]; exact c4) N5 (fun w => by rw [P5 w]; omega)⟩
theorem r_add (X : zM K ad s h) (I : mI T s) {x : Int32} : zm_Ct K M_X9_add [.ref (ad 0), .int x] h (poI K ad T) := by
  refine zm_meet (by decide) (Nat.le_of_ble_eq_true rfl) ?_
  intro E C Rt _
  refine B_X9_add_0 C Rt (Nat.le_refl 0) (Nat.le_refl 0) (X.pf 0 0 rfl (by decide) rfl fun h1 X1 => ?_)
  have I1 : mI T (s.pf 0 0) := I.p0
  generalize s.pf 0 0 = s1 at X1 I1
  have no : poI K ad T (some (.int (nI 0))) h1 := ⟨⟨_, rfl⟩, _, X1, I1⟩
  obtain ⟨i1, i2, i3, i4, i5, i6, i7, i8, i9, ⟨f, i10⟩, i11⟩ := I1
  have hc := i10.1
  refine X1.gI 14 rfl ⟨fun _ => ⟨rfl, no⟩, fun g1 => ⟨fun _ => ⟨rfl, no⟩, fun g2 => X1.gI 7 rfl ⟨fun _ => ⟨rfl, no⟩, fun g3 => X1.gI 14 rfl (X1.gR 1 rfl (X1.gI 7 rfl (X1.ld 1 (s1.fi 7) (by decide) (show s1.fi 7 < 1001 by omega) rfl ⟨fun g4 => ?_, fun _ => ⟨rfl, no⟩⟩)))⟩⟩⟩
  have hz : s1.fi 14 ≤ 255 := by
    rcases Nat.lt_or_ge 255 (s1.fi 14) with w | w
    · exact absurd (nI_lt w (by omega)) g1
    · exact w
  have gx : ¬ x < 0 := fun w => g2 (by
    rw [Int32.lt_iff_toInt_lt] at w ⊢
    have e0 : (0 : Int32).toInt = 0 := rfl
    have e1 : (nI 1).toInt = 1 := by decide
    omega)
  obtain ⟨n, hn0, rfl⟩ := nI_of gx
  rw [znsub hc] at g3
  have hn : n ≤ 1000 - s1.fi 7 := by
    rcases Nat.lt_or_ge (1000 - s1.fi 7) n with w | w
    · exact absurd (nI_lt w hn0) g3
    · exact w
  have hfc := i10.2.2.1 (s1.fi 7)
  have hnz : n * s1.fi 14 ≤ n * 255 := Nat.mul_le_mul_left n hz
  rw [i10.2.1, znsub hfc, nI_l (by omega), nI_l (by omega), nI_l (by omega), lN_mul] at g4
  have hroom : n * s1.fi 14 ≤ 20000 - f (s1.fi 7) := (lN_le (by omega) (by omega)).mp ((lg_cmp_le _ _).mp g4)
  suffices k62 : ∀ (m k : Nat) (s2 : mS) (h2 : zm_H) (f2 : Nat → Nat), zM K ad s2 h2 → mK [0, 7] [1, 4] s1 s2 → mRw s2 f2 → s2.fi 7 = s1.fi 7 + k → f2 (s1.fi 7 + k) = f (s1.fi 7) + k * s1.fi 14 → k ≤ n → n - k < m → zm_Go E 0 0 62 [(0, .ref (ad 0)), (1, .int (nI n)), (2, .int (nI k))] [] h2 from k62 1001 0 s1 h1 f X1 (mK.rf _ _ _) i10 rfl (by simp) (by omega) (by omega)
  intro m
  induction m with
  | zero => intro k s2 h2 f2 _ _ _ _ _ _ z; omega
  | succ m ih =>
    intro k s2 h2 f2 X2 Q2 R2 e7 ef hk hm
    refine B_X9_add_62 C Rt (Nat.le_refl 0) (Nat.le_refl 0) ⟨fun _ => ⟨rfl, ⟨_, rfl⟩, s2, X2, (Q2.1 13 (by decide)).trans i1, i2, by rw [Q2.1 14 (by decide)]; exact i3, by rw [Q2.1 15 (by decide)]; exact i4, by rw [Q2.1 19 (by decide)]; exact i5, by rw [Q2.1 17 (by decide)]; exact i6, by rw [Q2.2 10 (by decide)]; exact i7, by rw [Q2.2 11 (by decide)]; exact i8, by rw [Q2.2 12 (by decide)]; exact i9, ⟨f2, R2⟩, by rw [Q2.2 2 (by decide)]; exact i11⟩, fun q => ?_⟩
    have hk2 : k < n := by
      rcases Nat.lt_or_ge k n with w | w
      · exact w
      · exact absurd (nI_le w (by omega)) q
    have hkz : (k + 1) * s1.fi 14 ≤ n * s1.fi 14 := Nat.mul_le_mul_right _ hk2
    have ekz : (k + 1) * s1.fi 14 = k * s1.fi 14 + s1.fi 14 := Nat.succ_mul _ _
    suffices k69 : ∀ (m3 i : Nat) (s3 : mS) (h3 : zm_H), zM K ad s3 h3 → mK [] [4] s2 s3 → i ≤ s1.fi 14 → s1.fi 14 - i < m3 → zm_Go E 0 0 69 [(0, .ref (ad 0)), (1, .int (nI n)), (2, .int (nI k)), (3, .int (nI i))] [] h3 from k69 256 0 s2 h2 X2 (mK.rf _ _ _) (by omega) (by omega)
    intro m3
    induction m3 with
    | zero => intro i s3 h3 _ _ _ z; omega
    | succ m3 ih3 =>
      intro i s3 h3 X3 Q3 hi hm3
      have e14 : s3.fi 14 = s1.fi 14 := (Q3.1 14 (by simp)).trans (Q2.1 14 (by decide))
      have e73 : s3.fi 7 = s1.fi 7 + k := (Q3.1 7 (by simp)).trans e7
      have R3 : mRw s3 f2 := R2.of (Q3.1 7 (by simp)) (Q3.2 1 (by decide))
      have v3 : s3.ai 1 (s3.fi 7) = nI (f (s1.fi 7) + k * s1.fi 14) := by rw [R3.2.1, e73, ef]
      refine B_X9_add_69 C Rt (X3.gI 14 rfl ?_)
      rw [e14]
      refine ⟨fun _ => X3.gR 1 rfl (X3.gI 7 rfl (X3.gR 1 rfl (X3.gI 7 rfl (X3.ld 1 (s3.fi 7) (by decide) (show s3.fi 7 < 1001 by omega) rfl (X3.gI 14 rfl (X3.st 1 (s3.fi 7 + 1) (by decide) (show s3.fi 7 + 1 < 1001 by omega) (nI_add _ _) fun h4 X4 => X4.gI 7 rfl (X4.pf 7 (s3.fi 7 + 1) rfl (by decide) (nI_add _ _) fun h5 X5 => ?_))))))), fun q3 => ?_⟩
      · rw [v3, e14, nI_add] at X5
        rw [nI_add]
        refine ih (k + 1) _ h5 (zup f2 (s3.fi 7 + 1) (f (s1.fi 7) + k * s1.fi 14 + s1.fi 14)) X5 (Q2.trans ((Q3.mono (by simp) (by decide)).trans ((mK.sa (by decide)).trans (mK.pf (by decide))))) ⟨show s3.fi 7 + 1 ≤ 1000 by omega, fun j => ?_, fun j => zup_le R3.2.2.1 (by omega) j, fun j hj => ?_⟩ (show s3.fi 7 + 1 = _ by omega) ?_ (by omega) (by omega)
        · show upd (s3.ai 1) (s3.fi 7 + 1) (nI _) j = nI (zup f2 (s3.fi 7 + 1) _ j)
          by_cases w : j = s3.fi 7 + 1
          · rw [upd, if_pos w, zup, if_pos w]
          · rw [upd, if_neg w, zup, if_neg w]
            exact R3.2.1 j
        · have hj2 : j < s3.fi 7 + 1 := hj
          rw [zup, if_neg (by omega)]
          by_cases w : j = s3.fi 7
          · subst w
            rw [zup, if_pos rfl, show f2 (s3.fi 7) = f (s1.fi 7) + k * s1.fi 14 by rw [e73]; exact ef]
            omega
          · rw [zup, if_neg (by omega)]
            exact R3.2.2.2 j (by omega)
        · rw [zup, if_pos (by omega), ekz]
          omega
      · have hi2 : i < s1.fi 14 := by
          rcases Nat.lt_or_ge i (s1.fi 14) with w | w
          · exact w
          · exact absurd (nI_le w (by omega)) q3
        refine X3.gR 4 rfl (X3.gR 1 rfl (X3.gI 7 rfl (X3.ld 1 (s3.fi 7) (by decide) (show s3.fi 7 < 1001 by omega) rfl (X3.gR 11 rfl (X3.ld 11 i (by decide) (show i < 24000 by omega) rfl (X3.st 4 (f (s1.fi 7) + k * s1.fi 14 + i) (by decide) (show _ < 20000 by omega) (by rw [v3, nI_add]) fun h4 X4 => ?_))))))
        rw [nI_add]
        exact ih3 (i + 1) _ h4 X4 (Q3.trans (mK.sa (by decide))) (by omega) (by omega)
end ZNH
