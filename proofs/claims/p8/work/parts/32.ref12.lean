theorem mG.mono {e e' : Nat} {s : mS} (G : mG e s) (h : e ≤ e') : mG e' s := ⟨G.1, fun q => Nat.le_trans (G.2 q) h⟩
theorem mG.i {e v : Nat} {s : mS} (h7 : s.fi 17 ≤ 7) (h : s.fi 17 = 0 → v ≤ e) : mG e (s.pf 16 v) := ⟨h7, h⟩
/-- four widths at A -/
def mWd (e A : Nat) (f : Nat → Int32) : Prop := A + 4 ≤ e ∧ ∀ j, j < 4 → ∃ b, b ≤ 64 ∧ f (A + j) = nI b
section ZNE
variable {K : zm_K} {ad : Nat → Nat} {s : mS} {h : zm_H} {g : Nat → Nat} {T : Nat}
theorem r_readBlock (X : zM K ad s h) (hB : mB (s.ai 11)) {e a last : Nat} (he : e ≤ 24000) (G : mG e s) (ha : a < 2000) (hl : last < 2000) : zm_Ct K M_X9_readBlock [.ref (ad 0), .int (nI a), .int (nI last), .int (nI e)] h (fun r h' => r = none ∧ ∃ s', zM K ad s' h' ∧ mK [16, 17] [] s s' ∧ mG e s') := by
  refine zm_meet (by decide) (Nat.le_of_ble_eq_true rfl) ?_
  intro E C Rt _
  have k109 : ∀ (l : Int64) (A : Nat) (m p : Nat) (s2 : mS) (h2 : zm_H), zM K ad s2 h2 → mK [16, 17] [] s s2 → mG e s2 → (s2.fi 17 = 0 → mWd e A (s.ai 11)) → p ≤ 4 → 4 - p < m → zm_Go E 0 0 109 [(0, .ref (ad 0)), (1, .int (nI a)), (2, .int (nI last)), (3, .int (nI e)), (4, .long l), (6, .int (nI A)), (7, .int (nI p))] [] h2 := by
    intro l A m
    induction m with
    | zero => intro p s2 h2 _ _ _ _ _ z; omega
    | succ m ih =>
      intro p s2 h2 X2 Q2 G2 W2 hp hm
      have a11 := Q2.2 11 (by simp)
      refine B_X9_readBlock_109 C Rt (Nat.le_refl 0) (Nat.le_refl 0) ⟨fun _ => ⟨rfl, s2, X2, Q2, G2⟩, fun q1 => X2.gI 17 rfl ⟨fun _ => ⟨rfl, s2, X2, Q2, G2⟩, fun z => ⟨fun _ => ⟨rfl, s2, X2, Q2, G2⟩, fun q2 => ?_⟩⟩⟩
      have hp4 : p < 4 := by
        rcases Nat.lt_or_ge p 4 with y | y
        · exact y
        · exact absurd (nI_le y (by omega)) q1
      have f2 := G2.z.mp z
      have hat := G2.2 f2
      obtain ⟨W, W'⟩ := W2 f2
      obtain ⟨w, hw, ew⟩ := W' p hp4
      refine X2.gR 11 rfl (X2.ld 11 (A + p) (by decide) (show A + p < 24000 by omega) (nI_add _ _) (X2.gI 16 rfl ?_))
      rw [a11, ew]
      have k166 : ∀ (m6 k : Nat) (s6 : mS) (h6 : zm_H), zM K ad s6 h6 → mK [16, 17] [] s s6 → s6.fi 17 ≤ 7 → (s6.fi 17 = 1 ∨ s6.fi 16 + 2 * w ≤ e) → k ≤ 16 → 16 - k < m6 → zm_Go E 0 0 166 [(0, .ref (ad 0)), (1, .int (nI a)), (2, .int (nI last)), (3, .int (nI e)), (4, .long l), (6, .int (nI A)), (7, .int (nI p)), (8, .int (nI w)), (9, .int (nI k))] [] h6 := by
        intro m6
        induction m6 with
        | zero => intro k s6 h6 _ _ _ _ _ y; omega
        | succ m6 ih6 =>
          intro k s6 h6 X6 Q6 h67 c6 hk hm6
          have a116 := Q6.2 11 (by simp)
          have out : zm_gI h6 (ad 0) 9 16 fun v1 => zm_pf h6 (ad 0) 9 16 (.int (v1 + nI 2 * nI w)) fun h1 => zm_Go E 0 0 109 [(0, .ref (ad 0)), (1, .int (nI a)), (2, .int (nI last)), (3, .int (nI e)), (4, .long l), (6, .int (nI A)), (7, .int (nI p + nI 1))] [] h1 := by
            refine X6.gI 16 rfl (X6.pf 16 (s6.fi 16 + 2 * w) rfl (by decide) (by rw [znmul, nI_add]) fun h7 X7 => ?_)
            rw [nI_add]
            refine ih (p + 1) _ h7 X7 (Q6.trans (mK.pf (by decide))) (mG.i h67 (fun y => ?_)) (fun _ => ⟨W, W'⟩) (by omega) (by omega)
            omega
          refine B_X9_readBlock_166 C Rt ⟨fun _ => out, fun q3 => X6.gI 17 rfl ⟨fun _ => out, fun y => ?_⟩⟩
          have hk16 : k < 16 := by
            rcases Nat.lt_or_ge k 16 with x | x
            · exact x
            · exact absurd (nI_le x (by omega)) q3
          have n1 : s6.fi 17 ≠ 1 := fun x => y (by rw [x])
          have hat6 : s6.fi 16 + 2 * w ≤ e := by omega
          have hwk : w * (k + 1) ≤ w * 16 := Nat.mul_le_mul_left w hk16
          have ewk : w * (k + 1) = w * k + w := Nat.mul_succ w k
          have eh : nI a + nI 16 * nI p + nI k = nI (a + 16 * p + k) := by rw [znmul, nI_add, nI_add]
          suffices k187 : ∀ (m8 i : Nat) (v : Int64), i ≤ w → w - i < m8 → zm_Go E 0 0 187 [(0, .ref (ad 0)), (1, .int (nI a)), (2, .int (nI last)), (3, .int (nI e)), (4, .long l), (6, .int (nI A)), (7, .int (nI p)), (8, .int (nI w)), (9, .int (nI k)), (10, .long v), (12, .int (nI i))] [] h6 from k187 65 0 _ (by omega) (by omega)
          intro m8
          induction m8 with
          | zero => intro i v _ x; omega
          | succ m8 ih8 =>
            intro i v hi hm8
            refine B_X9_readBlock_187 C Rt ⟨fun _ => ⟨fun _ => ⟨fun _ => ?_, fun _ => X6.pf 17 5 rfl (by decide) rfl fun h7 X7 => ?_⟩, fun q5 => ?_⟩, fun q4 => ?_⟩
            · rw [nI_add]
              exact ih6 (k + 1) s6 h6 X6 Q6 h67 c6 (by omega) (by omega)
            · rw [nI_add]
              exact ih6 (k + 1) _ h7 X7 (Q6.trans (mK.pf (by decide))) (show 5 ≤ 7 by decide) (Or.inr hat6) (by omega) (by omega)
            · rw [eh] at q5
              have hh : a + 16 * p + k < last := by
                rcases Nat.lt_or_ge (a + 16 * p + k) last with x | x
                · exact x
                · exact absurd (nI_le x (by omega)) q5
              refine X6.gR 18 rfl (X6.gR 18 rfl (X6.lL (a + 16 * p + k) (by omega) eh (X6.sL (a + 16 * p + k + 1) (by omega) (by rw [eh, nI_add]) fun h7 X7 => ?_)))
              rw [nI_add]
              exact ih6 (k + 1) _ h7 X7 (Q6.trans mK.sl) h67 c6 (by omega) (by omega)
            · have hi2 : i < w := by
                rcases Nat.lt_or_ge i w with x | x
                · exact x
                · exact absurd (nI_le x (by omega)) q4
              refine X6.gR 11 rfl (X6.gI 16 rfl ⟨by decide, X6.ld 11 (s6.fi 16 + (w * k + i) / 8) (by decide) (show _ < 24000 by omega) (by rw [znmul, nI_add, zndiv (by omega) (by decide), nI_add]) ⟨by decide, ?_⟩⟩)
              rw [nI_add (a := i)]
              exact ih8 (i + 1) _ (by omega) (by omega)
      refine ⟨fun q3 => ?_, fun _ => X2.pf 17 1 rfl (by decide) rfl fun h3 X3 => ?_⟩
      · rw [znmul] at q3
        have := (zle_sub (by omega) (by omega) (by omega)).mp q3
        exact k166 17 0 s2 h2 X2 Q2 G2.1 (Or.inr (by omega)) (by omega) (by omega)
      · exact k166 17 0 _ h3 X3 (Q2.trans (mK.pf (by decide))) (show 1 ≤ 7 by decide) (Or.inl rfl) (by omega) (by omega)
  refine B_X9_readBlock_0 C Rt (Nat.le_refl 0) (Nat.le_refl 0) (m_varint X he G.1 G.2 fun v s1 h1 X1 V1 => m_pure r_unzigzag fun l => X1.gI 16 rfl ?_)
  have G1 := V1.g
  suffices k19 : ∀ (m p : Nat) (s2 : mS) (h2 : zm_H), zM K ad s2 h2 → mK [16, 17] [] s s2 → mG e s2 → (s2.fi 17 = 0 → s2.fi 16 = s1.fi 16 + p ∧ ∀ j, j < p → ∃ b, b ≤ 64 ∧ s.ai 11 (s1.fi 16 + j) = nI b) → p ≤ 4 → 4 - p < m → zm_Go E 0 0 19 [(0, .ref (ad 0)), (1, .int (nI a)), (2, .int (nI last)), (3, .int (nI e)), (4, .long l), (6, .int (nI (s1.fi 16))), (7, .int (nI p))] [] h2 from k19 5 0 s1 h1 X1 (V1.k (by decide) (by decide)) G1 (fun _ => ⟨rfl, fun j y => absurd y (by omega)⟩) (by omega) (by omega)
  intro m
  induction m with
  | zero => intro p s2 h2 _ _ _ _ _ z; omega
  | succ m ih =>
    intro p s2 h2 X2 Q2 G2 W2 hp hm
    have a11 := Q2.2 11 (by simp)
    refine B_X9_readBlock_19 C Rt ⟨fun q1 => ?_, fun q1 => X2.gI 17 rfl ⟨fun z => ?_, fun z => X2.gI 16 rfl ?_⟩⟩
    · have hp4 : 4 ≤ p := (nI_leI (by omega) (by omega)).mp q1
      refine k109 l (s1.fi 16) 5 0 s2 h2 X2 Q2 G2 (fun y => ?_) (by omega) (by omega)
      obtain ⟨w1, w2⟩ := W2 y
      exact ⟨by have := G2.2 y; omega, fun j hj => w2 j (by omega)⟩
    · exact k109 l (s1.fi 16) 5 0 s2 h2 X2 Q2 G2 (fun y => absurd (G2.z.mpr y) z) (by omega) (by omega)
    · have hp4 : p < 4 := by
        rcases Nat.lt_or_ge p 4 with y | y
        · exact y
        · exact absurd (nI_le y (by omega)) q1
      have f2 := G2.z.mp z
      obtain ⟨w1, w2⟩ := W2 f2
      have bad : ∀ v, 1 ≤ v → v ≤ 7 → zm_pf h2 (ad 0) 9 17 (.int (nI v)) fun h1 => zm_gI h1 (ad 0) 9 16 fun v6 => zm_pf h1 (ad 0) 9 16 (.int (v6 + nI 1)) fun h3 => zm_Go E 0 0 19 [(0, .ref (ad 0)), (1, .int (nI a)), (2, .int (nI last)), (3, .int (nI e)), (4, .long l), (6, .int (nI (s1.fi 16))), (7, .int (nI p + nI 1))] [] h3 := by
        intro v hv hv7
        refine X2.pf 17 v rfl (by decide) rfl fun h3 X3 => X3.gI 16 rfl (X3.pf 16 (s2.fi 16 + 1) rfl (by decide) (nI_add _ _) fun h4 X4 => ?_)
        rw [nI_add]
        exact ih (p + 1) _ h4 X4 (Q2.trans ((mK.pf (by decide)).trans (mK.pf (by decide)))) ⟨hv7, fun y => absurd (show v = 0 from y) (by omega)⟩ (fun y => absurd (show v = 0 from y) (by omega)) (by omega) (by omega)
      refine ⟨fun q2 => ?_, fun _ => bad 1 (by decide) (by decide)⟩
      have hlt : s2.fi 16 < e := by
        have := G2.2 f2
        exact (nI_ltI (by omega) (by omega)).mp q2
      obtain ⟨b, hb, eb⟩ := hB (s2.fi 16)
      have good : b ≤ 64 → zm_gI h2 (ad 0) 9 16 fun v10 => zm_pf h2 (ad 0) 9 16 (.int (v10 + nI 1)) fun h3 => zm_Go E 0 0 19 [(0, .ref (ad 0)), (1, .int (nI a)), (2, .int (nI last)), (3, .int (nI e)), (4, .long l), (6, .int (nI (s1.fi 16))), (7, .int (nI p + nI 1))] [] h3 := by
        intro hb64
        refine X2.gI 16 rfl (X2.pf 16 (s2.fi 16 + 1) rfl (by decide) (nI_add _ _) fun h3 X3 => ?_)
        rw [nI_add]
        refine ih (p + 1) _ h3 X3 (Q2.trans (mK.pf (by decide))) (mG.i G2.1 (fun _ => by omega)) (fun _ => ⟨show s2.fi 16 + 1 = s1.fi 16 + (p + 1) by omega, fun j hj => ?_⟩) (by omega) (by omega)
        by_cases y : j = p
        · rw [y, ← w1]
          exact ⟨b, hb64, eb⟩
        · exact w2 j (by omega)
      refine X2.gR 11 rfl (X2.gI 16 rfl (X2.ld 11 (s2.fi 16) (by decide) (show _ < 24000 by omega) rfl ?_))
      rw [a11, eb]
      refine ⟨fun _ => bad 5 (by decide) (by decide), fun q3 => X2.gR 11 rfl (X2.gI 16 rfl (X2.ld 11 (s2.fi 16) (by decide) (show _ < 24000 by omega) rfl ?_))⟩
      have hb64 : b ≤ 64 := by
        rcases Nat.lt_or_ge 64 b with y | y
        · exact absurd (nI_lt y (by omega)) q3
        · exact y
      exact ⟨fun _ => good hb64, fun _ => ⟨fun _ => good hb64, fun _ => bad 5 (by decide) (by decide)⟩⟩
def poC (K : zm_K) (ad : Nat → Nat) (s : mS) (n : Nat) : zm_Po := fun r h' => r = none ∧ ∃ s', zM K ad s' h' ∧ mK [16, 17, 19] [] s s' ∧ mG (s.fi 14) s' ∧ s'.fi 19 ≤ 2000 ∧ (s'.fi 17 = 0 → s'.fi 19 = n)
theorem r_readCode (X : zM K ad s h) (hB : mB (s.ai 11)) (hz : s.fi 14 ≤ 24000) (G : mG (s.fi 14) s) (h19 : s.fi 19 ≤ 2000) {n : Nat} (hn : n ≤ 1000) : zm_Ct K M_X9_readCode [.ref (ad 0), .int (nI n)] h (poC K ad s n) := by
  refine zm_meet (by decide) (Nat.le_of_ble_eq_true rfl) ?_
  intro E C Rt _
  have k217 : ∀ (s2 : mS) (h2 : zm_H), zM K ad s2 h2 → mK [16, 17, 19] [] s s2 → mG (s.fi 14) s2 → s2.fi 19 ≤ 2000 → zm_Go E 0 0 217 [(0, .ref (ad 0)), (1, .int (nI n))] [] h2 := by
    intro s2 h2 X2 Q2 G2 c2
    refine B_X9_readCode_217 C Rt (X2.gI 17 rfl ⟨fun z => B_X9_readCode_237 C Rt (Nat.le_refl 0) (Nat.le_refl 0) ⟨rfl, s2, X2, Q2, G2, c2, fun y => absurd (G2.z.mpr y) z⟩, fun _ => X2.gI 19 rfl ⟨fun y => B_X9_readCode_237 C Rt (Nat.le_refl 0) (Nat.le_refl 0) ⟨rfl, s2, X2, Q2, G2, c2, fun _ => (nI_eq (by omega) (by omega)).mp y⟩, fun _ => X2.pf 17 4 rfl (by decide) rfl fun h3 X3 => B_X9_readCode_237 C Rt (Nat.le_refl 0) (Nat.le_refl 0) ⟨rfl, _, X3, Q2.trans (mK.pf (by decide)), mG.flt (by decide) (by decide), c2, fun y => absurd (show (4 : Nat) = 0 from y) (by decide)⟩⟩⟩)
  have k135 : ∀ (e : Nat), e ≤ s.fi 14 → ∀ (m j : Nat) (s2 : mS) (h2 : zm_H), zM K ad s2 h2 → mK [16, 17, 19] [] s s2 → mG e s2 → s2.fi 19 ≤ 2000 → j ≤ 32 → 32 - j < m → zm_Go E 0 0 135 [(0, .ref (ad 0)), (1, .int (nI n)), (4, .int (nI e)), (7, .int (nI (64 * j)))] [] h2 := by
    intro e hez m
    induction m with
    | zero => intro j s2 h2 _ _ _ _ _ z; omega
    | succ m ih =>
      intro j s2 h2 X2 Q2 G2 c2 hj hm
      have a11 : s2.ai 11 = s.ai 11 := Q2.2 11 (by simp)
      have end9 : zm_gI h2 (ad 0) 9 17 fun v2 => (¬ v2 = 0 → zm_Go E 0 0 217 [(0, .ref (ad 0)), (1, .int (nI n))] [] h2) ∧ (v2 = 0 → zm_gI h2 (ad 0) 9 16 fun v3 => (nI e ≤ v3 → zm_Go E 0 0 217 [(0, .ref (ad 0)), (1, .int (nI n))] [] h2) ∧ (¬ nI e ≤ v3 → zm_pf h2 (ad 0) 9 17 (.int (nI 6)) fun h1 => zm_Go E 0 0 217 [(0, .ref (ad 0)), (1, .int (nI n))] [] h1)) :=
        X2.gI 17 rfl ⟨fun _ => k217 s2 h2 X2 Q2 (G2.mono hez) c2, fun _ => X2.gI 16 rfl ⟨fun _ => k217 s2 h2 X2 Q2 (G2.mono hez) c2, fun _ => X2.pf 17 6 rfl (by decide) rfl fun h3 X3 => k217 _ h3 X3 (Q2.trans (mK.pf (by decide))) (mG.flt (by decide) (by decide)) c2⟩⟩
      refine B_X9_readCode_135 C Rt (Nat.le_refl 0) (Nat.le_refl 0) (X2.gI 19 rfl ⟨fun _ => end9, fun q1 => X2.gI 17 rfl ⟨fun _ => end9, fun z => X2.gI 19 rfl ?_⟩⟩)
      have hlc : 64 * j + 1 < s2.fi 19 := by
        rcases Nat.lt_or_ge (64 * j + 1) (s2.fi 19) with y | y
        · exact y
        · exact absurd ((zsub_le (by omega) (by omega) (by omega)).mpr (by omega)) q1
      have call : ∀ (L : Nat), L < 2000 → zm_rc h2 (ad 0) 9 ∧ zm_cv K M_X9_readBlock [.ref (ad 0), .int (nI (64 * j)), .int (nI L), .int (nI e)] h2 fun h3 => zm_Go E 0 0 135 [(0, .ref (ad 0)), (1, .int (nI n)), (4, .int (nI e)), (7, .int (nI (64 * j) + nI 64))] [] h3 := by
        intro L hL
        refine ⟨X2.rc, _, r_readBlock X2 (by rw [a11]; exact hB) (by omega) G2 (by omega) hL, fun r h' p => ?_⟩
        obtain ⟨rfl, s3, X3, Q3, G3⟩ := p
        rw [nI_add]
        exact ⟨rfl, ih (j + 1) s3 h' X3 (Q2.trans (Q3.mono (by decide) (fun _ y => y))) G3 (by rw [Q3.1 19 (by decide)]; exact c2) (by omega) (by omega)⟩
      refine ⟨fun q2 => X2.gI 19 rfl ?_, fun q2 => ?_⟩
      · rw [znsub (by omega)]
        exact call _ (by omega)
      · rw [zsub_le' (by omega) (by omega) (by omega)] at q2
        rw [nI_add]
        have c := call (64 * j + 64) (by omega)
        rw [nI_add] at c
        exact c
  have k95 : ∀ (e : Nat), e ≤ s.fi 14 → ∀ (v : Int64) (s2 : mS) (h2 : zm_H), zM K ad s2 h2 → mK [16, 17, 19] [] s s2 → mG e s2 → s2.fi 19 ≤ 2000 → (s2.fi 17 = 0 → ∃ x, x ≤ 2000 ∧ v = lN x) → zm_Go E 0 0 95 [(0, .ref (ad 0)), (1, .int (nI n)), (4, .int (nI e)), (5, .long v)] [] h2 := by
    intro e hez v s2 h2 X2 Q2 G2 c2 hv
    refine B_X9_readCode_95 C Rt (Nat.le_refl 0) (Nat.le_refl 0) (X2.gI 17 rfl ⟨fun z => ?_, fun z => ⟨rfl, s2, X2, Q2, G2.mono hez, c2, fun y => absurd (G2.z.mpr y) z⟩⟩)
    obtain ⟨x, hx, rfl⟩ := hv (G2.z.mp z)
    refine X2.pf 19 x rfl (by decide) (lN_i x) fun h3 X3 => X3.gI 19 rfl ?_
    have Q3 := Q2.trans (mK.pf (A := [16, 17, 19]) (B := []) (s := s2) (k := 19) (v := x) (by decide))
    refine ⟨fun _ => B_X9_readCode_132 C Rt (k135 e hez 33 0 _ h3 X3 Q3 G2 hx (by omega) (by omega)), fun _ => X3.gR 18 rfl (m_varint X3 (by omega) G2.1 G2.2 fun y s4 h4 X4 V4 => m_pure r_unzigzag fun y2 => X4.sL 0 (by decide) rfl fun h5 X5 => B_X9_readCode_132 C Rt ?_)⟩
    exact k135 e hez 33 0 _ h5 X5 (Q3.trans ((V4.k (by decide) (by decide)).trans mK.sl)) V4.g (by rw [show ((s4.sl 0 y2).fi 19) = s4.fi 19 from rfl, V4.1 19 (by decide) (by decide)]; exact hx) (by omega) (by omega)
  have k42 : ∀ (v : Int64) (s2 : mS) (h2 : zm_H), zM K ad s2 h2 → mK [16, 17, 19] [] s s2 → mG (s.fi 14) s2 → s2.fi 19 ≤ 2000 → (s2.fi 17 = 0 → ∃ x, s2.fi 16 + x ≤ s.fi 14 ∧ v = lN x) → zm_Go E 0 0 42 [(0, .ref (ad 0)), (1, .int (nI n)), (2, .long v)] [] h2 := by
    intro v s2 h2 X2 Q2 G2 c2 hv
    refine B_X9_readCode_42 C Rt (Nat.le_refl 0) (Nat.le_refl 0) (X2.gI 17 rfl ⟨fun z => X2.gI 16 rfl ?_, fun z => ⟨rfl, s2, X2, Q2, G2, c2, fun y => absurd (G2.z.mpr y) z⟩⟩)
    obtain ⟨x, hx, rfl⟩ := hv (G2.z.mp z)
    rw [lN_i, nI_add]
    refine m_varint X2 (e := s2.fi 16 + x) (by omega) G2.1 (fun _ => by omega) fun y s3 h3 X3 V3 => X3.gI 17 rfl ?_
    have G3 := V3.g
    have Q3 := Q2.trans (V3.k (A := [16, 17, 19]) (B := []) (by decide) (by decide))
    have c3 : s3.fi 19 ≤ 2000 := by rw [V3.1 19 (by decide) (by decide)]; exact c2
    have bad : zm_Go E 0 0 90 [(0, .ref (ad 0)), (1, .int (nI n)), (4, .int (nI (s2.fi 16 + x))), (5, .long y)] [] h3 := B_X9_readCode_90 C Rt (X3.pf 17 4 rfl (by decide) rfl fun h4 X4 => k95 _ hx y _ h4 X4 (Q3.trans (mK.pf (by decide))) (mG.flt (by decide) (by decide)) c3 (fun q => absurd (show (4 : Nat) = 0 from q) (by decide)))
    exact ⟨fun z3 => k95 _ hx y s3 h3 X3 Q3 G3 c3 (fun q => absurd (G3.z.mpr q) z3), fun _ => ⟨fun _ => bad, fun lo => ⟨fun hi => k95 _ hx y s3 h3 X3 Q3 G3 c3 (fun _ => zlr (by decide) lo hi), fun _ => bad⟩⟩⟩
  refine B_X9_readCode_0 C Rt (Nat.le_refl 0) (Nat.le_refl 0) (X.gI 14 rfl (m_varint X hz G.1 G.2 fun v s1 h1 X1 V1 => X1.gI 17 rfl ?_))
  have G1 := V1.g
  have Q1 := V1.k (A := [16, 17, 19]) (B := []) (by decide) (by decide)
  have c1 : s1.fi 19 ≤ 2000 := by rw [V1.1 19 (by decide) (by decide)]; exact h19
  have e14 := V1.1 14 (by decide) (by decide)
  have bad : zm_pf h1 (ad 0) 9 17 (.int (nI 1)) fun h2 => zm_Go E 0 0 42 [(0, .ref (ad 0)), (1, .int (nI n)), (2, .long v)] [] h2 := X1.pf 17 1 rfl (by decide) rfl fun h2 X2 => k42 v _ h2 X2 (Q1.trans (mK.pf (by decide))) (mG.flt (by decide) (by decide)) c1 (fun q => absurd (show (1 : Nat) = 0 from q) (by decide))
  refine ⟨fun z => k42 v s1 h1 X1 Q1 G1 c1 (fun q => absurd (G1.z.mpr q) z), fun z => ⟨fun _ => bad, fun lo => X1.gI 14 rfl (X1.gI 16 rfl ⟨fun hi => ?_, fun _ => bad⟩)⟩⟩
  have hat := G1.2 (G1.z.mp z)
  rw [e14, znsub hat, nI_l (by omega)] at hi
  obtain ⟨x, hx, rfl⟩ := zlr (by omega) lo hi
  exact k42 _ s1 h1 X1 Q1 G1 c1 (fun _ => ⟨x, by omega, rfl⟩)
end ZNE
