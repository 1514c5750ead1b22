theorem zlr {v : Int64} {n : Nat} (hn : n < 2 ^ 31) (h0 : ¬ lg_cmp v (lN 0) < 0) (h1 : lg_cmp v (lN n) ≤ 0) : ∃ x, x ≤ n ∧ v = lN x := by
  have a : ¬ v < lN 0 := fun z => h0 ((lg_cmp_lt _ _).mpr z)
  have b := (lg_cmp_le _ _).mp h1
  rw [Int64.lt_iff_toInt_lt, lN_toInt (by decide)] at a
  rw [Int64.le_iff_toInt_le, lN_toInt hn] at b
  refine ⟨v.toInt.toNat, by omega, Int64.toInt_inj.mp ?_⟩
  rw [lN_toInt (by omega)]
  omega
section ZND
variable {K : zm_K} {ad : Nat → Nat} {s : mS} {h : zm_H} {g : Nat → Nat} {T : Nat}
theorem r_readPlain (X : zM K ad s h) (hz : s.fi 14 ≤ 24000) (G : mG (s.fi 14) s) (R : mN s g) {n : Nat} (hn : s.fi 8 + n ≤ 1000) : zm_Ct K M_X9_readPlain [.ref (ad 0), .int (nI n)] h (poT K ad s (s.fi 14) n) := by
  refine zm_meet (by decide) (Nat.le_of_ble_eq_true rfl) ?_
  intro E C Rt _
  refine B_X9_readPlain_0 C Rt ?_
  suffices key : ∀ (m k : Nat) (s2 : mS) (h2 : zm_H), zM K ad s2 h2 → mK [8, 16, 17] [2, 5] s s2 → s2.lg = s.lg → mG (s.fi 14) s2 → (∃ g, mN s2 g) → (s2.fi 17 = 0 → s2.fi 8 = s.fi 8 + k) → k ≤ n → n - k < m → zm_Go E 0 0 2 [(0, .ref (ad 0)), (1, .int (nI n)), (2, .int (nI k))] [] h2 from key 1001 0 s h X (mK.rf _ _ _) rfl G ⟨g, R⟩ (fun _ => rfl) (by omega) (by omega)
  intro m
  induction m with
  | zero => intro k s2 h2 _ _ _ _ _ _ _ q; omega
  | succ m ih =>
    intro k s2 h2 X2 Q2 L2 G2 N2 c2 hk hm
    have e14 := Q2.1 14 (by decide)
    refine B_X9_readPlain_2 C Rt (Nat.le_refl 0) (Nat.le_refl 0) ⟨fun q => ⟨rfl, s2, X2, Q2, L2, G2, N2, fun z => ?_⟩, fun q => X2.gI 17 rfl ⟨fun z => ⟨rfl, s2, X2, Q2, L2, G2, N2, fun z2 => absurd (G2.z.mpr z2) z⟩, fun z => X2.gI 14 rfl ?_⟩⟩
    · have := (nI_leI (by omega) (by omega)).mp q
      have := c2 z
      omega
    · have hk2 : k < n := by
        rcases Nat.lt_or_ge k n with y | y
        · exact y
        · exact absurd (nI_le y (by omega)) q
      have f0 := G2.z.mp z
      rw [e14]
      refine m_varint X2 hz G2.1 G2.2 fun v s3 h3 X3 V3 => X3.gI 17 rfl ?_
      have G3 := V3.g
      have Q3 := Q2.trans (V3.k (A := [8, 16, 17]) (B := [2, 5]) (by decide) (by decide))
      have L3 := V3.2.2.1.trans L2
      have N3 : ∃ g, mN s3 g := by
        obtain ⟨g2, N2⟩ := N2
        exact ⟨g2, N2.of (V3.1 8 (by decide) (by decide)) (by rw [V3.2.1])⟩
      have e8 : s3.fi 8 = s.fi 8 + k := (V3.1 8 (by decide) (by decide)).trans (c2 f0)
      have nx : ∀ (s4 : mS) (h4 : zm_H), zM K ad s4 h4 → mK [8, 16, 17] [2, 5] s s4 → s4.lg = s.lg → mG (s.fi 14) s4 → (∃ g, mN s4 g) → (s4.fi 17 = 0 → s4.fi 8 = s.fi 8 + (k + 1)) → zm_Go E 0 0 2 [(0, .ref (ad 0)), (1, .int (nI n)), (2, .int (nI k + nI 1))] [] h4 := by
        intro s4 h4 X4 Q4 L4 G4 N4 c4
        rw [nI_add]
        exact ih (k + 1) s4 h4 X4 Q4 L4 G4 N4 c4 (by omega) (by omega)
      have bad : ∀ (P : zm_H → Prop), zm_pf h3 (ad 0) 9 17 (.int (nI 7)) fun h4 => zm_gI h4 (ad 0) 9 17 fun v6 => (¬ v6 = 0 → zm_Go E 0 0 2 [(0, .ref (ad 0)), (1, .int (nI n)), (2, .int (nI k + nI 1))] [] h4) ∧ (v6 = 0 → P h4) := fun P => X3.pf 17 7 rfl (by decide) rfl fun h4 X4 => X4.gI 17 rfl ⟨fun _ => nx _ h4 X4 (Q3.trans (mK.pf (by decide))) L3 (mG.flt (by decide) (by decide)) N3 (fun z => absurd (show (7 : Nat) = 0 from z) (by decide)), fun z => absurd (show nI 7 = 0 from z) (by decide)⟩
      refine ⟨fun z3 => X3.gI 17 rfl ⟨fun _ => nx s3 h3 X3 Q3 L3 G3 N3 (fun y => absurd (G3.z.mpr y) z3), fun y => absurd y z3⟩, fun z3 => ⟨fun _ => bad _, fun lo => ⟨fun hi => X3.gI 17 rfl ⟨fun y => absurd z3 y, fun _ => ?_⟩, fun _ => bad _⟩⟩⟩
      obtain ⟨x, hx, rfl⟩ := zlr (by decide) lo hi
      rw [lN_i]
      obtain ⟨g3, N3⟩ := N3
      have e14' := Q3.1 14 (by decide)
      have f3 := G3.z.mp z3
      refine ⟨X3.rc, _, r_take X3 (by omega) f3 (by rw [e14']; exact G3.2 f3) N3 (by omega) (b := 0) (by omega) (Or.inl rfl), fun r h' p => ?_⟩
      obtain ⟨rfl, s4, X4, Q4, L4, G4, N4, c4⟩ := p
      rw [e14'] at G4
      exact ⟨rfl, nx s4 h' X4 (Q3.trans Q4) (L4.trans L3) G4 N4 (fun y => by rw [c4 y]; omega)⟩
theorem r_bitsAt (X : zM K ad s h) {p b w : Nat} (hs : b + w < 2 ^ 31) (hb : ∀ i, i < w → p + (b + i) / 8 < 24000) : zm_Ct K M_X9_bitsAt [.ref (ad 0), .int (nI p), .int (nI b), .int (nI w)] h (fun r h' => h' = h ∧ ∃ y : Int32, r = some (.int y)) := by
  refine zm_meet (by decide) (Nat.le_of_ble_eq_true rfl) ?_
  intro E C Rt _
  refine B_X9_bitsAt_0 C Rt ?_
  suffices key : ∀ (m i : Nat) (y : Int32), i ≤ w → w - i < m → zm_Go E 0 0 6 [(0, .ref (ad 0)), (1, .int (nI p)), (2, .int (nI b)), (3, .int (nI w)), (4, .int y), (5, .int (nI i))] [] h from key (w + 1) 0 _ (by omega) (by omega)
  intro m
  induction m with
  | zero => intro i y _ q; omega
  | succ m ih =>
    intro i y hi hm
    refine B_X9_bitsAt_6 C Rt (Nat.le_refl 0) (Nat.le_refl 0) ⟨fun _ => ⟨rfl, _, rfl⟩, fun q => X.gR 11 rfl ⟨by decide, ?_⟩⟩
    have hi2 : i < w := by
      rcases Nat.lt_or_ge i w with z | z
      · exact z
      · exact absurd (nI_le z (by omega)) q
    refine X.ld 11 (p + (b + i) / 8) (by decide) (hb i hi2) (by rw [nI_add, zndiv (by omega) (by decide), nI_add]) ⟨by decide, ?_⟩
    rw [nI_add (a := i)]
    exact ih (i + 1) _ (by omega) (by omega)
theorem m_bitsAt (X : zM K ad s h) {p b w : Nat} (hs : b + w < 2 ^ 31) (hb : ∀ i, i < w → p + (b + i) / 8 < 24000) {j : Int32} (hj : j = nI b) {F : Int32 → zm_H → Prop} (hF : ∀ y, F y h) : zm_rc h (ad 0) 9 ∧ zm_ci K M_X9_bitsAt [.ref (ad 0), .int (nI p), .int j, .int (nI w)] h F := by
  subst hj
  refine ⟨X.rc, _, r_bitsAt X hs hb, fun r h' q => ?_⟩
  obtain ⟨rfl, y, rfl⟩ := q
  exact ⟨y, rfl, hF y⟩
def poK (K : zm_K) (ad : Nat → Nat) (s : mS) (e k : Nat) : zm_Po := fun r h' => ∃ s' k', zM K ad s' h' ∧ mK [16, 17] [20] s s' ∧ s'.lg = s.lg ∧ mG e s' ∧ k' ≤ 1010 ∧ (s'.fi 17 = 0 → k < k') ∧ r = some (.int (nI k'))
theorem r_readOne (X : zM K ad s h) {e k n w q : Nat} (he : e ≤ 24000) (h0 : s.fi 17 = 0) (ha : s.fi 16 ≤ e) (hk : k ≤ n) (hn : n ≤ 1000) (hw : w ≤ 32) (hq : q < 2 ^ 63) (hq0 : q ≠ 0) : zm_Ct K M_X9_readOne [.ref (ad 0), .ref (ad 20), .int (nI k), .int (nI n), .int (nI w), .int (nI e), .long (lN q)] h (poK K ad s e k) := by
  refine zm_meet (by decide) (Nat.le_of_ble_eq_true rfl) ?_
  intro E C Rt _
  have e7 : (nI w + nI 7) / nI 8 = nI ((w + 7) / 8) := by rw [nI_add, zndiv (by omega) (by decide)]
  have out : ∀ v, 1 ≤ v → v ≤ 7 → ∀ (P : zm_H → Prop), zm_pf h (ad 0) 9 17 (.int (nI v)) fun h2 => zm_gI h2 (ad 0) 9 17 fun v5 => (v5 = 0 → P h2) ∧ (¬ v5 = 0 → poK K ad s e k (some (.int (nI k))) h2) := by
    intro v hv hv7 P
    refine X.pf 17 v rfl (by decide) rfl fun h1 X1 => X1.gI 17 rfl ⟨fun z => absurd ((zn0 (show v < 2 ^ 31 by omega)).mp z) (by omega), fun _ => ⟨_, k, X1, mK.pf (by decide), rfl, mG.flt hv hv7, by omega, fun z => absurd (show v = 0 from z) (by omega), rfl⟩⟩
  refine B_X9_readOne_0 C Rt (Nat.le_refl 0) (Nat.le_refl 0) ⟨by decide, fun g1 => X.gI 16 rfl ⟨fun g2 => X.gI 17 rfl ⟨fun _ => X.gI 16 rfl ?_, fun z => absurd (by rw [h0]; rfl) z⟩, fun _ => out 1 (by decide) (by decide) _⟩, fun _ => out 4 (by decide) (by decide) _⟩
  rw [znsub hk] at g1
  have hqn : q ≤ n - k := zlc hq (by omega) g1
  rw [e7] at g2
  have hby : (w + 7) / 8 + s.fi 16 ≤ e := (zle_sub (by omega) (by omega) (by omega)).mp g2
  have k133 : ∀ (y : Int32) (m i : Nat) (s2 : mS) (h2 : zm_H), zM K ad s2 h2 → mK [16, 17] [20] s s2 → s2.lg = s.lg → mG e s2 → i ≤ q → q - i < m → zm_Go E 0 0 133 [(1, .ref (ad 20)), (2, .int (nI k)), (6, .long (lN q)), (9, .int y), (10, .int (nI i))] [] h2 := by
    intro y m
    induction m with
    | zero => intro i s2 h2 _ _ _ _ _ z; omega
    | succ m ih =>
      intro i s2 h2 X2 Q2 L2 G2 hi hm
      refine B_X9_readOne_133 C Rt (Nat.le_refl 0) (Nat.le_refl 0) ⟨fun _ => ?_, fun g3 => ?_⟩
      · rw [lN_i, nI_add]
        exact ⟨s2, k + q, X2, Q2, L2, G2, by omega, fun _ => by omega, rfl⟩
      · have hi2 : i < q := by
          rcases Nat.lt_or_ge i q with z | z
          · exact z
          · refine absurd ((lg_cmp_ge _ _).mpr ?_) g3
            rw [nI_l (by omega)]
            exact (lN_le (by omega) (by omega)).mpr z
        refine X2.st 20 (k + i) (by decide) (show k + i < 1008 by omega) (nI_add _ _) fun h3 X3 => ?_
        rw [nI_add]
        exact ih (i + 1) _ h3 X3 (Q2.trans (mK.sa (by decide))) L2 G2 (by omega) (by omega)
  refine m_bitsAt X (b := 0) (by omega) (fun i hi => by omega) rfl fun y => ?_
  rw [e7]
  suffices k71 : ∀ (m i : Nat) (s2 : mS) (h2 : zm_H), zM K ad s2 h2 → mK [16, 17] [20] s s2 → s2.lg = s.lg → s2.fi 17 ≤ 7 → s2.fi 16 = s.fi 16 → w ≤ i → i ≤ w + 8 → w + 8 - i < m → zm_Go E 0 0 71 [(0, .ref (ad 0)), (1, .ref (ad 20)), (2, .int (nI k)), (6, .long (lN q)), (8, .int (nI ((w + 7) / 8))), (9, .int y), (10, .int (nI i))] [] h2 from k71 9 w s h X (mK.rf _ _ _) rfl (by omega) rfl (by omega) (by omega) (by omega)
  intro m
  induction m with
  | zero => intro i s2 h2 _ _ _ _ _ _ _ z; omega
  | succ m ih =>
    intro i s2 h2 X2 Q2 L2 h7 e16 hwi hi hm
    refine B_X9_readOne_71 C Rt ⟨fun _ => ?_, fun g3 => ?_⟩
    · refine X2.gI 16 rfl (X2.pf 16 (s2.fi 16 + (w + 7) / 8) rfl (by decide) (nI_add _ _) fun h3 X3 => ?_)
      exact k133 y (q + 1) 0 _ h3 X3 (Q2.trans (mK.pf (by decide))) L2 ⟨h7, fun _ => show s2.fi 16 + (w + 7) / 8 ≤ e by omega⟩ (by omega) (by omega)
    · rw [znmul] at g3
      have hi2 : i < 8 * ((w + 7) / 8) := by
        rcases Nat.lt_or_ge i (8 * ((w + 7) / 8)) with z | z
        · exact z
        · exact absurd (nI_le z (by omega)) g3
      refine X2.gR 11 rfl (X2.gI 16 rfl ⟨by decide, X2.ld 11 (s2.fi 16 + i / 8) (by decide) (show _ < 24000 by omega) (by rw [zndiv (by omega) (by decide), nI_add]) ⟨by decide, fun _ => ?_, fun _ => X2.pf 17 5 rfl (by decide) rfl fun h3 X3 => ?_⟩⟩)
      · rw [nI_add]
        exact ih (i + 1) s2 h2 X2 Q2 L2 h7 e16 (by omega) (by omega) (by omega)
      · rw [nI_add]
        exact ih (i + 1) _ h3 X3 (Q2.trans (mK.pf (by decide))) L2 (show 5 ≤ 7 by decide) e16 (by omega) (by omega) (by omega)
theorem r_readGroups (X : zM K ad s h) {e k n w q : Nat} (he : e ≤ 24000) (h0 : s.fi 17 = 0) (ha : s.fi 16 ≤ e) (hk : k ≤ n) (hn : n ≤ 1000) (hw : w ≤ 32) (hq : q < 2 ^ 63) (hq0 : q ≠ 0) : zm_Ct K M_X9_readGroups [.ref (ad 0), .ref (ad 20), .int (nI k), .int (nI n), .int (nI w), .int (nI e), .long (lN q)] h (poK K ad s e k) := by
  refine zm_meet (by decide) (Nat.le_of_ble_eq_true rfl) ?_
  intro E C Rt _
  have e7 : (nI n - nI k + nI 7) / nI 8 = nI ((n - k + 7) / 8) := by rw [znsub hk, nI_add, zndiv (by omega) (by decide)]
  have out : ∀ v, 1 ≤ v → v ≤ 7 → ∀ (P : zm_H → Prop), zm_pf h (ad 0) 9 17 (.int (nI v)) fun h2 => zm_gI h2 (ad 0) 9 17 fun v5 => (v5 = 0 → P h2) ∧ (¬ v5 = 0 → poK K ad s e k (some (.int (nI k))) h2) := by
    intro v hv hv7 P
    refine X.pf 17 v rfl (by decide) rfl fun h1 X1 => X1.gI 17 rfl ⟨fun z => absurd ((zn0 (show v < 2 ^ 31 by omega)).mp z) (by omega), fun _ => ⟨_, k, X1, mK.pf (by decide), rfl, mG.flt hv hv7, by omega, fun z => absurd (show v = 0 from z) (by omega), rfl⟩⟩
  refine B_X9_readGroups_0 C Rt (Nat.le_refl 0) (Nat.le_refl 0) ⟨by decide, fun g1 => X.gI 16 rfl ⟨fun g2 => X.gI 17 rfl ⟨fun _ => ?_, fun z => absurd (by rw [h0]; rfl) z⟩, fun _ => out 1 (by decide) (by decide) _⟩, fun _ => out 4 (by decide) (by decide) _⟩
  rw [e7] at g1
  have hqn : q ≤ (n - k + 7) / 8 := zlc hq (by omega) g1
  have hqw : q * w ≤ q * 32 := Nat.mul_le_mul_left q hw
  rw [znsub ha, nI_l (by omega), nI_l (by omega), lN_mul] at g2
  have hby : q * w ≤ e - s.fi 16 := (lN_le (by omega) (by omega)).mp ((lg_cmp_ge _ _).mp g2)
  suffices k59 : ∀ (m i : Nat) (s2 : mS) (h2 : zm_H), zM K ad s2 h2 → mK [16, 17] [20] s s2 → s2.lg = s.lg → s2.fi 17 ≤ 7 → s2.fi 16 = s.fi 16 → i ≤ 8 * q → 8 * q - i < m → zm_Go E 0 0 59 [(0, .ref (ad 0)), (1, .ref (ad 20)), (2, .int (nI k)), (3, .int (nI n)), (4, .int (nI w)), (6, .long (lN q)), (8, .int (nI i))] [] h2 from k59 (8 * q + 1) 0 s h X (mK.rf _ _ _) rfl (by omega) rfl (by omega) (by omega)
  intro m
  induction m with
  | zero => intro i s2 h2 _ _ _ _ _ _ z; omega
  | succ m ih =>
    intro i s2 h2 X2 Q2 L2 h7 e16 hi hm
    refine B_X9_readGroups_59 C Rt (Nat.le_refl 0) (Nat.le_refl 0) ⟨fun _ => ?_, fun g3 => ?_⟩
    · refine X2.gI 16 rfl (X2.pf 16 (s2.fi 16 + q * w) rfl (by decide) (by rw [lN_i, znmul, nI_add]) fun h3 X3 => ?_)
      rw [lN_i, znmul, nI_add]
      exact ⟨_, k + 8 * q, X3, Q2.trans (mK.pf (by decide)), L2, ⟨h7, fun _ => show s2.fi 16 + q * w ≤ e by omega⟩, by omega, fun _ => by omega, rfl⟩
    · have hi2 : i < 8 * q := by
        rcases Nat.lt_or_ge i (8 * q) with z | z
        · exact z
        · refine absurd ((lg_cmp_ge _ _).mpr ?_) g3
          rw [nI_l (by omega), lN_mul]
          exact (lN_le (by omega) (by omega)).mpr z
      have hwi : w * (i + 1) ≤ w * (8 * q) := Nat.mul_le_mul_left w hi2
      have ew : w * (i + 1) = w * i + w := Nat.mul_succ w i
      have eq8 : w * (8 * q) = 8 * (q * w) := by rw [Nat.mul_comm, Nat.mul_assoc]
      refine X2.gI 16 rfl (m_bitsAt X2 (b := w * i) (by omega) (fun j hj => by omega) (znmul _ _) fun y => ⟨fun _ => ⟨fun _ => ?_, fun _ => X2.pf 17 5 rfl (by decide) rfl fun h3 X3 => ?_⟩, fun g4 => ?_⟩)
      · rw [nI_add]
        exact ih (i + 1) s2 h2 X2 Q2 L2 h7 e16 (by omega) (by omega)
      · rw [nI_add]
        exact ih (i + 1) _ h3 X3 (Q2.trans (mK.pf (by decide))) L2 (show 5 ≤ 7 by decide) e16 (by omega) (by omega)
      · rw [nI_add] at g4
        have hki : k + i < n := by
          rcases Nat.lt_or_ge (k + i) n with z | z
          · exact z
          · exact absurd (nI_le z (by omega)) g4
        refine X2.st 20 (k + i) (by decide) (show k + i < 1008 by omega) (nI_add _ _) fun h3 X3 => ?_
        rw [nI_add]
        exact ih (i + 1) _ h3 X3 (Q2.trans (mK.sa (by decide))) L2 h7 e16 (by omega) (by omega)
theorem r_readRuns (X : zM K ad s h) {e n w : Nat} (he : e ≤ 24000) (G : mG e s) (hn : n ≤ 1000) (hw : w ≤ 32) : zm_Ct K M_X9_readRuns [.ref (ad 0), .ref (ad 20), .int (nI n), .int (nI w), .int (nI e)] h (fun r h' => r = none ∧ ∃ s', zM K ad s' h' ∧ mK [16, 17] [20] s s' ∧ s'.lg = s.lg ∧ mG e s') := by
  refine zm_meet (by decide) (Nat.le_of_ble_eq_true rfl) ?_
  intro E C Rt _
  refine B_X9_readRuns_0 C Rt ?_
  suffices key : ∀ (m k : Nat) (s2 : mS) (h2 : zm_H), zM K ad s2 h2 → mK [16, 17] [20] s s2 → s2.lg = s.lg → mG e s2 → k ≤ 1010 → 1 ≤ m → (s2.fi 17 = 0 → 1012 - k ≤ m) → zm_Go E 0 0 3 [(0, .ref (ad 0)), (1, .ref (ad 20)), (2, .int (nI n)), (3, .int (nI w)), (4, .int (nI e)), (5, .int (nI k))] [] h2 from key 1012 0 s h X (mK.rf _ _ _) rfl G (by omega) (by omega) (by omega)
  intro m
  induction m with
  | zero => intro k s2 h2 _ _ _ _ _ z; omega
  | succ m ih =>
    intro k s2 h2 X2 Q2 L2 G2 hk hm hm2
    refine B_X9_readRuns_3 C Rt (Nat.le_refl 0) (Nat.le_refl 0) ⟨fun _ => ⟨rfl, s2, X2, Q2, L2, G2⟩, fun g1 => X2.gI 17 rfl ⟨fun _ => ⟨rfl, s2, X2, Q2, L2, G2⟩, fun z => ?_⟩⟩
    have hkn : k < n := by
      rcases Nat.lt_or_ge k n with y | y
      · exact y
      · exact absurd (nI_le y (by omega)) g1
    have f0 := hm2 (G2.z.mp z)
    refine m_varint X2 he G2.1 G2.2 fun v s3 h3 X3 V3 => X3.gI 17 rfl ?_
    have G3 := V3.g
    have Q3 := Q2.trans (V3.k (A := [16, 17]) (B := [20]) (by decide) (by decide))
    have L3 := V3.2.2.1.trans L2
    obtain ⟨x, hx, rfl⟩ := wb_of v
    rw [wb_shr hx (by decide)]
    have hx2 : x / 2 ^ 1 < 2 ^ 63 := by omega
    refine ⟨fun z3 => ?_, fun _ => ⟨rfl, s3, X3, Q3, L3, G3⟩⟩
    have f3 := G3.z.mp z3
    refine ⟨fun nz => ?_, fun _ => X3.pf 17 3 rfl (by decide) rfl fun h4 X4 => ?_⟩
    · have hq0 : x / 2 ^ 1 ≠ 0 := fun y => nz ((lg_cmp_eq _ _).mpr (by rw [y]))
      have fin : ∀ (M : zm_M) (as : List Value), zm_Ct K M as h3 (poK K ad s3 e k) → zm_ci K M as h3 fun v4 h2 => zm_Go E 0 0 3 [(0, .ref (ad 0)), (1, .ref (ad 20)), (2, .int (nI n)), (3, .int (nI w)), (4, .int (nI e)), (5, .int v4)] [] h2 := by
        intro M as hM
        refine ⟨_, hM, fun r h' p => ?_⟩
        obtain ⟨s4, k', X4, Q4, L4, G4, hk4, hk5, rfl⟩ := p
        refine ⟨_, rfl, ih k' s4 h' X4 (Q3.trans Q4) (L4.trans L3) G4 hk4 (by omega) (fun y => ?_)⟩
        have := hk5 y
        omega
      exact ⟨fun _ => ⟨X3.rc, fin _ _ (r_readGroups X3 he f3 (G3.2 f3) (by omega) hn hw hx2 hq0)⟩, fun _ => ⟨X3.rc, fin _ _ (r_readOne X3 he f3 (G3.2 f3) (by omega) hn hw hx2 hq0)⟩⟩
    · exact ih k _ h4 X4 (Q3.trans (mK.pf (by decide))) L3 (mG.flt (by decide) (by decide)) hk (by omega) (fun y => absurd (show (3 : Nat) = 0 from y) (by decide))
end ZND
