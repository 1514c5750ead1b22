/-- the dictionary's texts: W of them -/
def mDk (s : mS) (W : Nat) (u : Nat → Nat) : Prop := s.fi 9 = W ∧ W ≤ 1000 ∧ (∀ k, k ≤ W → s.ai 3 k = nI (u k)) ∧ (∀ k, u k ≤ 20000) ∧ ∀ k, k < W → u k ≤ u (k + 1) ∧ u (k + 1) ≤ u k + 255
section ZNG
variable {K : zm_K} {ad : Nat → Nat} {s : mS} {h : zm_H} {g : Nat → Nat} {T : Nat}
theorem r_readDictionary (X : zM K ad s h) (hB : mB (s.ai 11)) (hz : s.fi 14 ≤ 24000) (G : mG (s.fi 14) s) (h19 : s.fi 19 ≤ 2000) (R : mN s g) (h8 : s.fi 8 = 0) {n : Nat} (hn : n ≤ 1000) : zm_Ct K M_X9_readDictionary [.ref (ad 0), .int (nI n)] h (poD K ad s n) := by
  refine zm_meet (by decide) (Nat.le_of_ble_eq_true rfl) ?_
  intro E C Rt _
  have k341 : ∀ (s2 : mS) (h2 : zm_H), zM K ad s2 h2 → mK [8, 9, 16, 17, 19] [2, 3, 5, 6, 20, 21, 22] s s2 → s2.fi 19 ≤ 2000 → (∃ g, mN s2 g) → zm_Go E 0 0 341 [(0, .ref (ad 0))] [] h2 := fun s2 h2 X2 Q2 c2 N2 => B_X9_readDictionary_341 C Rt (Nat.le_refl 0) (Nat.le_refl 0) (X2.pf 17 7 rfl (by decide) rfl fun h3 X3 => ⟨rfl, _, X3, Q2.trans (mK.pf (by decide)), mG.flt (by decide) (by decide), c2, N2, fun y => absurd (show (7 : Nat) = 0 from y) (by decide)⟩)
  have k247 : ∀ (W : Nat) (u : Nat → Nat) (m k : Nat) (s2 : mS) (h2 : zm_H), zM K ad s2 h2 → mK [8, 9, 16, 17, 19] [2, 3, 5, 6, 20, 21, 22] s s2 → mG (s.fi 14) s2 → s2.fi 19 ≤ 2000 → (∃ g, mN s2 g) → mDk s2 W u → (s2.fi 17 = 0 → s2.fi 8 = k) → k ≤ n → n - k < m → zm_Go E 0 0 247 [(0, .ref (ad 0)), (1, .int (nI n)), (5, .int (nI k))] [] h2 := by
    intro W u m
    induction m with
    | zero => intro k s2 h2 _ _ _ _ _ _ _ _ z; omega
    | succ m ih =>
      intro k s2 h2 X2 Q2 G2 c2 N2 D2 P2 hk hm
      have fin : (s2.fi 17 = 0 → k = n) → poD K ad s n none h2 := fun z => ⟨rfl, s2, X2, Q2, G2, c2, N2, fun y => (P2 y).trans (z y)⟩
      refine B_X9_readDictionary_247 C Rt (Nat.le_refl 0) (Nat.le_refl 0) ⟨fun q => fin (fun _ => by have := (nI_leI (by omega) (by omega)).mp q; omega), fun q => X2.gI 17 rfl ⟨fun z => fin (fun y => absurd (G2.z.mpr y) z), fun z => ?_⟩⟩
      have hk2 : k < n := by
        rcases Nat.lt_or_ge k n with y | y
        · exact y
        · exact absurd (nI_le y (by omega)) q
      have f2 := G2.z.mp z
      have p8 := P2 f2
      have bad : ∀ (x : Int32), zm_Go E 0 0 316 [(0, .ref (ad 0)), (1, .int (nI n)), (5, .int (nI k)), (6, .int x), (7, .int (nI 0))] [.int (nI 0)] h2 := fun x => B_X9_readDictionary_316 C Rt ⟨fun _ => k341 s2 h2 X2 Q2 c2 N2, fun y => absurd rfl y⟩
      refine X2.gR 20 rfl (X2.ld 20 k (by decide) (show k < 1008 by omega) rfl ⟨fun _ => ⟨fun _ => bad _, fun y => absurd rfl y⟩, fun n0 => X2.gI 9 rfl ⟨fun _ => ⟨fun _ => bad _, fun y => absurd rfl y⟩, fun n1 => ⟨fun y => absurd y (by decide), fun _ => ?_⟩⟩⟩)
      obtain ⟨d1, d2, d3, d4, d5⟩ := D2
      obtain ⟨i, hi0, ei⟩ := nI_of n0
      rw [ei, d1] at n1
      have hiW : i < W := by
        rcases Nat.lt_or_ge i W with y | y
        · exact y
        · exact absurd (nI_le y hi0) n1
      have hu := d5 i hiW
      have hu1 := d4 (i + 1)
      rw [ei]
      refine X2.gR 3 rfl (X2.ld 3 (i + 1) (by decide) (show i + 1 < 1001 by omega) (nI_add _ _) (X2.gR 3 rfl (X2.ld 3 i (by decide) (show i < 1001 by omega) rfl ?_)))
      rw [d3 (i + 1) (by omega), d3 i (by omega), znsub hu.1]
      obtain ⟨g2, N2'⟩ := N2
      have hgk := N2'.2.2.1 k
      refine B_X9_readDictionary_316 C Rt ⟨fun y => absurd y (by decide), fun _ => X2.gR 2 rfl (X2.gI 8 rfl (X2.ld 2 k (by decide) (show k < 1001 by omega) (by rw [p8]) ⟨fun y => ?_, fun _ => k341 s2 h2 X2 Q2 c2 ⟨g2, N2'⟩⟩))⟩
      rw [N2'.2.1, nI_add] at y
      have hto : g2 k + (u (i + 1) - u i) ≤ 20000 := (nI_leI (by omega) (by decide)).mp y
      suffices k351 : ∀ (m5 j : Nat) (s5 : mS) (h5 : zm_H), zM K ad s5 h5 → mK [] [5] s2 s5 → j ≤ u (i + 1) - u i → u (i + 1) - u i - j < m5 → zm_Go E 0 0 351 [(0, .ref (ad 0)), (1, .int (nI n)), (5, .int (nI k)), (6, .int (nI i)), (8, .int (nI (u (i + 1) - u i))), (9, .int (nI j))] [] h5 from k351 256 0 s2 h2 X2 (mK.rf _ _ _) (by omega) (by omega)
      intro m5
      induction m5 with
      | zero => intro j s5 h5 _ _ _ x; omega
      | succ m5 ih5 =>
        intro j s5 h5 X5 Q5 hj hm5
        have e8 : s5.fi 8 = k := (Q5.1 8 (by simp)).trans p8
        have a2 := Q5.2 2 (by decide)
        have a3 := Q5.2 3 (by decide)
        refine B_X9_readDictionary_351 C Rt ⟨fun _ => ?_, fun x => ?_⟩
        · refine X5.gI 8 rfl (X5.pf 8 (s5.fi 8 + 1) rfl (by decide) (nI_add _ _) fun h6 X6 => X6.gR 2 rfl (X6.gI 8 rfl (X6.gR 2 rfl (X6.gI 8 rfl (X6.ld 2 (s5.fi 8) (by decide) (show s5.fi 8 < 1001 by omega) (by show nI (s5.fi 8 + 1) - nI 1 = _; rw [znsub (by omega)]; rfl) (X6.st 2 (s5.fi 8 + 1) (by decide) (show s5.fi 8 + 1 < 1001 by omega) rfl fun h7 X7 => ?_))))))
          have ev : (s5.pf 8 (s5.fi 8 + 1)).ai 2 (s5.fi 8) + nI (u (i + 1) - u i) = nI (g2 k + (u (i + 1) - u i)) := by
            show s5.ai 2 (s5.fi 8) + _ = _
            rw [a2, e8, N2'.2.1, nI_add]
          rw [ev] at X7
          have N5 : mN s5 g2 := N2'.of (Q5.1 8 (by simp)) a2
          have N7 := N5.up (y := g2 k + (u (i + 1) - u i)) (by omega) (by rw [e8]; omega) (by rw [e8]; omega) hto
          rw [nI_add]
          refine ih (k + 1) _ h7 X7 (Q2.trans ((Q5.mono (by simp) (by decide)).trans ((mK.pf (by decide)).trans (mK.sa (by decide))))) ⟨?_, fun z7 => ?_⟩ ?_ ⟨_, N7⟩ ⟨?_, d2, fun k' hk' => ?_, d4, d5⟩ (fun _ => ?_) (by omega) (by omega)
          · show s5.fi 17 ≤ 7
            rw [Q5.1 17 (by simp)]
            exact G2.1
          · show s5.fi 16 ≤ _
            rw [Q5.1 16 (by simp)]
            exact G2.2 f2
          · show s5.fi 19 ≤ 2000
            rw [Q5.1 19 (by simp)]
            exact c2
          · show s5.fi 9 = W
            rw [Q5.1 9 (by simp)]
            exact d1
          · show s5.ai 3 k' = _
            rw [a3]
            exact d3 k' hk'
          · show s5.fi 8 + 1 = k + 1
            omega
        · have hj2 : j < u (i + 1) - u i := by
            rcases Nat.lt_or_ge j (u (i + 1) - u i) with w | w
            · exact w
            · exact absurd (nI_le w (by omega)) x
          refine X5.gR 5 rfl (X5.gR 2 rfl (X5.gI 8 rfl (X5.ld 2 k (by decide) (show k < 1001 by omega) (by rw [e8]) (X5.gR 6 rfl (X5.gR 3 rfl (X5.ld 3 i (by decide) (show i < 1001 by omega) rfl (X5.ld 6 (u i + j) (by decide) (show u i + j < 20000 by omega) (by rw [a3, d3 i (by omega), nI_add]) (X5.st 5 (g2 k + j) (by decide) (show g2 k + j < 20000 by omega) (by rw [a2, N2'.2.1, nI_add]) fun h6 X6 => ?_))))))))
          rw [nI_add]
          exact ih5 (j + 1) _ h6 X6 (Q5.trans (mK.sa (by decide))) (by omega) (by omega)
  have k99 : ∀ (W : Nat) (u : Nat → Nat) (m i : Nat) (s2 : mS) (h2 : zm_H), zM K ad s2 h2 → mK [8, 9, 16, 17, 19] [2, 3, 5, 6, 20, 21, 22] s s2 → mG (s.fi 14) s2 → s2.fi 19 ≤ 2000 → s2.fi 17 = 0 → (∃ g, mN s2 g) → mDk s2 W u → i ≤ 20000 → 20000 - i < m → zm_Go E 0 0 99 [(0, .ref (ad 0)), (1, .int (nI n)), (4, .int (nI i))] [] h2 := by
    intro W u m
    induction m with
    | zero => intro i s2 h2 _ _ _ _ _ _ _ _ z; omega
    | succ m ih =>
      intro i s2 h2 X2 Q2 G2 c2 f2 N2 D2 hi hm
      obtain ⟨d1, d2, d3, d4, d5⟩ := D2
      have huW := d4 W
      have e14 : s2.fi 14 = s.fi 14 := Q2.1 14 (by decide)
      have a11 : s2.ai 11 = s.ai 11 := Q2.2 11 (by decide)
      have hat := G2.2 f2
      refine B_X9_readDictionary_99 C Rt (Nat.le_refl 0) (Nat.le_refl 0) (X2.gR 3 rfl (X2.gI 9 rfl (X2.ld 3 W (by decide) (show W < 1001 by omega) (by rw [d1]) ?_)))
      rw [d3 W (Nat.le_refl _)]
      refine ⟨fun _ => X2.pf 8 0 rfl (by decide) rfl fun h3 X3 => X3.gI 16 rfl (X3.gI 14 rfl ?_), fun q => ?_⟩
      · have Q3 := Q2.trans (mK.pf (A := [8, 9, 16, 17, 19]) (B := [2, 3, 5, 6, 20, 21, 22]) (s := s2) (k := 8) (v := 0) (by decide))
        have N3 : ∃ g, mN (s2.pf 8 0) g := by
          obtain ⟨g2, N2⟩ := N2
          exact ⟨g2, Nat.zero_le 1000, N2.2.1, N2.2.2.1, fun k hk => absurd (show k < 0 from hk) (by omega)⟩
        have bad : ∀ v, 1 ≤ v → v ≤ 7 → ∀ (P : zm_H → Prop), zm_pf h3 (ad 0) 9 17 (.int (nI v)) fun h5 => zm_gI h5 (ad 0) 9 17 fun v19 => (v19 = 0 → P h5) ∧ (¬ v19 = 0 → poD K ad s n none h5) := by
          intro v hv hv7 P
          refine X3.pf 17 v rfl (by decide) rfl fun h4 X4 => X4.gI 17 rfl ⟨fun y => absurd ((zn0 (show v < 2 ^ 31 by omega)).mp y) (by omega), fun _ => ⟨rfl, _, X4, Q3.trans (mK.pf (by decide)), mG.flt hv hv7, c2, N3, fun y => absurd (show v = 0 from y) (by omega)⟩⟩
        refine ⟨fun q => ?_, fun _ => bad 1 (by decide) (by decide) _⟩
        have hlt : s2.fi 16 < s2.fi 14 := (nI_ltI (show s2.fi 16 < 2 ^ 31 by omega) (by omega)).mp q
        obtain ⟨b, hb, eb⟩ := hB (s2.fi 16)
        have eb2 : s2.ai 11 (s2.fi 16) = nI b := by rw [a11]; exact eb
        refine X3.gR 11 rfl (X3.gI 16 rfl (X3.ld 11 (s2.fi 16) (by decide) (show _ < 24000 by omega) rfl ⟨fun q3 => X3.gI 17 rfl ⟨fun _ => X3.gR 11 rfl (X3.gI 16 rfl (X3.ld 11 (s2.fi 16) (by decide) (show _ < 24000 by omega) rfl (X3.gI 16 rfl (X3.pf 16 (s2.fi 16 + 1) rfl (by decide) (nI_add _ _) fun h4 X4 => X4.gR 20 rfl (X4.gI 14 rfl ?_))))), fun y => absurd (show nI (s2.fi 17) = 0 by rw [f2]; rfl) y⟩, fun _ => bad 5 (by decide) (by decide) _⟩))
        have hb32 : b ≤ 32 := by
          have q4 : nI b ≤ nI 32 := by rw [← eb2]; exact q3
          exact (nI_leI (by omega) (by decide)).mp q4
        have ew : (s2.pf 8 0).ai 11 (s2.fi 16) = nI b := eb2
        rw [ew]
        have Q4 := Q3.trans (mK.pf (A := [8, 9, 16, 17, 19]) (B := [2, 3, 5, 6, 20, 21, 22]) (s := s2.pf 8 0) (k := 16) (v := s2.fi 16 + 1) (by decide))
        refine ⟨X4.rc, _, r_readRuns X4 (e := s2.fi 14) (by omega) ⟨G2.1, fun _ => show s2.fi 16 + 1 ≤ s2.fi 14 by omega⟩ hn hb32, fun r h5 p => ?_⟩
        obtain ⟨rfl, s5, X5, Q5, L5, G5⟩ := p
        rw [e14] at G5
        have Q6 := Q4.trans (Q5.mono (by decide) (by decide))
        have N5 : ∃ g, mN s5 g := by
          obtain ⟨g3, N3⟩ := N3
          exact ⟨g3, N3.of (Q5.1 8 (by decide)) (Q5.2 2 (by decide))⟩
        have c5 : s5.fi 19 ≤ 2000 := by rw [Q5.1 19 (by decide)]; exact c2
        have D5 : mDk s5 W u := ⟨(Q5.1 9 (by decide)).trans d1, d2, fun k hk => by rw [Q5.2 3 (by decide)]; exact d3 k hk, d4, d5⟩
        have z8 : s5.fi 8 = 0 := Q5.1 8 (by decide)
        have go := k247 W u 1001 0 s5 h5 X5 Q6 G5 c5 N5 D5 (fun _ => z8) (by omega) (by omega)
        exact ⟨rfl, X5.gI 17 rfl ⟨fun _ => go, fun _ => X5.gI 16 rfl (X5.gI 14 rfl ⟨fun _ => go, fun _ => X5.pf 17 6 rfl (by decide) rfl fun h6 X6 => k247 W u 1001 0 _ h6 X6 (Q6.trans (mK.pf (by decide))) (mG.flt (by decide) (by decide)) c5 N5 D5 (fun _ => z8) (by omega) (by omega)⟩)⟩⟩
      · have hi2 : i < u W := by
          rcases Nat.lt_or_ge i (u W) with y | y
          · exact y
          · exact absurd (nI_le y (by omega)) q
        refine X2.gR 6 rfl (X2.gR 5 rfl (X2.ld 5 i (by decide) (show i < 20000 by omega) rfl (X2.st 6 i (by decide) (show i < 20000 by omega) rfl fun h3 X3 => ?_)))
        rw [nI_add]
        exact ih (i + 1) _ h3 X3 (Q2.trans (mK.sa (by decide))) G2 c2 f2 N2 ⟨d1, d2, d3, d4, d5⟩ (by omega) (by omega)
  have k67 : ∀ (W : Nat) (u : Nat → Nat) (m k : Nat) (s2 : mS) (h2 : zm_H), zM K ad s2 h2 → mK [8, 9, 16, 17, 19] [2, 3, 5, 6, 20, 21, 22] s s2 → mG (s.fi 14) s2 → s2.fi 19 ≤ 2000 → s2.fi 17 = 0 → mN s2 u → s2.fi 8 = W → s2.fi 9 = W → (∀ j, j < k → s2.ai 3 j = nI (u j)) → k ≤ W + 1 → W + 1 - k < m → zm_Go E 0 0 67 [(0, .ref (ad 0)), (1, .int (nI n)), (4, .int (nI k))] [] h2 := by
    intro W u m
    induction m with
    | zero => intro k s2 h2 _ _ _ _ _ _ _ _ _ _ z; omega
    | succ m ih =>
      intro k s2 h2 X2 Q2 G2 c2 f2 N2 e8 e9 P2 hk hm
      have hW : W ≤ 1000 := by have := N2.1; omega
      refine B_X9_readDictionary_67 C Rt (X2.gI 9 rfl ?_)
      rw [e9]
      refine ⟨fun q => ?_, fun q => ?_⟩
      · have hkW : W < k := (nI_ltI (by omega) (by omega)).mp q
        exact k99 W u 20001 0 s2 h2 X2 Q2 G2 c2 f2 ⟨u, N2⟩ ⟨e9, hW, fun j hj => P2 j (by omega), N2.2.2.1, fun j hj => N2.2.2.2 j (by omega)⟩ (by omega) (by omega)
      · have hkW : k ≤ W := by
          rcases Nat.lt_or_ge W k with y | y
          · exact absurd (nI_lt y (by omega)) q
          · exact y
        refine X2.gR 3 rfl (X2.gR 2 rfl (X2.ld 2 k (by decide) (show k < 1001 by omega) rfl (X2.st 3 k (by decide) (show k < 1001 by omega) rfl fun h3 X3 => ?_)))
        rw [nI_add]
        refine ih (k + 1) _ h3 X3 (Q2.trans (mK.sa (by decide))) G2 c2 f2 N2 e8 e9 (fun j hj => ?_) (by omega) (by omega)
        show upd (s2.ai 3) k (s2.ai 2 k) j = nI (u j)
        by_cases y : j = k
        · rw [upd, if_pos y, N2.2.1, y]
        · rw [upd, if_neg y]
          exact P2 j (by omega)
  refine B_X9_readDictionary_0 C Rt (Nat.le_refl 0) (Nat.le_refl 0) (X.gI 14 rfl (m_varint X hz G.1 G.2 fun v s1 h1 X1 V1 => X1.gI 17 rfl ?_))
  have G1 := V1.g
  have Q1 := V1.k (A := [8, 9, 16, 17, 19]) (B := [2, 3, 5, 6, 20, 21, 22]) (by decide) (by decide)
  have c1 : s1.fi 19 ≤ 2000 := by rw [V1.1 19 (by decide) (by decide)]; exact h19
  have e14 := V1.1 14 (by decide) (by decide)
  have e81 : s1.fi 8 = 0 := (V1.1 8 (by decide) (by decide)).trans h8
  have N1 : mN s1 g := R.of (V1.1 8 (by decide) (by decide)) (by rw [V1.2.1])
  have bad : ∀ (P : zm_H → Prop), zm_pf h1 (ad 0) 9 17 (.int (nI 4)) fun h4 => zm_gI h4 (ad 0) 9 17 fun v7 => (v7 = 0 → P h4) ∧ (¬ v7 = 0 → poD K ad s n none h4) := fun P => X1.pf 17 4 rfl (by decide) rfl fun h4 X4 => X4.gI 17 rfl ⟨fun y => absurd (show nI 4 = 0 from y) (by decide), fun _ => ⟨rfl, _, X4, Q1.trans (mK.pf (by decide)), mG.flt (by decide) (by decide), c1, ⟨g, N1⟩, fun y => absurd (show (4 : Nat) = 0 from y) (by decide)⟩⟩
  refine ⟨fun z => X1.gI 17 rfl ⟨fun y => absurd y z, fun _ => ⟨rfl, s1, X1, Q1, G1, c1, ⟨g, N1⟩, fun y => absurd (G1.z.mpr y) z⟩⟩, fun z => ⟨fun _ => bad _, fun lo => ⟨fun hi => X1.gI 17 rfl ⟨fun _ => ?_, fun y => absurd z y⟩, fun _ => bad _⟩⟩⟩
  rw [nI_l (by omega)] at hi
  obtain ⟨d, hd, rfl⟩ := zlr (by omega) lo hi
  rw [lN_i]
  refine ⟨X1.rc, _, r_readPlain X1 (by omega) (by rw [e14]; exact G1) N1 (n := d) (by omega), fun r h2 p => ?_⟩
  obtain ⟨rfl, s2, X2, Q2, L2, G2, ⟨u, N2⟩, c2⟩ := p
  rw [e14] at G2
  have Q3 := Q1.trans (Q2.mono (A' := [8, 9, 16, 17, 19]) (B' := [2, 3, 5, 6, 20, 21, 22]) (by decide) (by decide))
  have c3 : s2.fi 19 ≤ 2000 := by rw [Q2.1 19 (by decide)]; exact c1
  refine ⟨rfl, X2.gI 17 rfl ⟨fun z2 => X2.gI 8 rfl (X2.pf 9 (s2.fi 8) rfl (by decide) rfl fun h3 X3 => ?_), fun z2 => ⟨rfl, s2, X2, Q3, G2, c3, ⟨u, N2⟩, fun y => absurd (G2.z.mpr y) z2⟩⟩⟩
  exact k67 (s2.fi 8) u 1002 0 _ h3 X3 (Q3.trans (mK.pf (by decide))) G2 c3 (G2.z.mp z2) N2 rfl rfl (fun j y => absurd y (by omega)) (by omega) (by have := N2.1; omega)
end ZNG
