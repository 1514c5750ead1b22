def poI (K : zm_K) (ad : Nat → Nat) (T : Nat) : zm_Po := fun r h' => (∃ y : Int32, r = some (.int y)) ∧ ∃ s', zM K ad s' h' ∧ mI T s'
theorem mI.le {T : Nat} {s : mS} (I : mI T s) : s.fi 13 = T ∧ T ≤ 24000 ∧ s.fi 14 ≤ 24000 ∧ s.fi 15 ≤ 24000 ∧ s.fi 17 ≤ 7 := ⟨I.1, I.2.1, I.2.2.1, I.2.2.2.1, I.2.2.2.2.2.1⟩
theorem mI.row {T : Nat} {s : mS} (I : mI T s) : ∃ f, mRw s f := I.2.2.2.2.2.2.2.2.2.1
section ZNB
variable {K : zm_K} {ad : Nat → Nat} {s : mS} {h : zm_H} {f : Nat → Nat} {T : Nat}
theorem r_write (X : zM K ad s h) (I : mI T s) {x : Int32} : zm_Ct K M_X9_write [.ref (ad 0), .int x] h (poI K ad T) := by
  refine zm_meet (by decide) (Nat.le_of_ble_eq_true rfl) ?_
  intro E C Rt _
  refine B_X9_write_0 C Rt (Nat.le_refl 0) (Nat.le_refl 0) (X.pf 0 0 rfl (by decide) rfl fun h1 X1 => X1.pf 15 0 rfl (by decide) rfl fun h2 X2 => ?_)
  have I2 : mI T ((s.pf 0 0).pf 15 0) := I.p0.p15 (by omega)
  have z15 : ((s.pf 0 0).pf 15 0).fi 15 = 0 := rfl
  generalize (s.pf 0 0).pf 15 0 = s2 at X2 I2 z15
  obtain ⟨f, R⟩ := I2.row
  have hc := R.1
  have no : poI K ad T (some (.int (-1))) h2 := ⟨⟨_, rfl⟩, s2, X2, I2⟩
  have k56 : ∀ (s3 : mS) (h3 : zm_H), ¬ x = 0 → zM K ad s3 h3 → mQ 24000 s2 s3 → zm_Go E 0 0 56 [(0, .ref (ad 0)), (1, .int x), (2, .int (nI 0))] [] h3 := by
    intro s3 h3 hx X3 Q3
    have I3 := I2.wr Q3 z15 (Nat.le_refl _)
    exact B_X9_write_56 C Rt (Nat.le_refl 0) (Nat.le_refl 0) (X3.gI 7 rfl ⟨fun _ => X3.gI 15 rfl ⟨⟨_, rfl⟩, s3, X3, I3⟩, fun _ => ⟨fun _ => X3.gI 15 rfl ⟨⟨_, rfl⟩, s3, X3, I3⟩, fun g => absurd g hx⟩⟩)
  have call : ∀ (M : zm_M) (n : Nat), ¬ x = 0 → n ≤ 24000 → zm_Ct K M [.ref (ad 0)] h2 (poQ K ad s2 n) → zm_rc h2 (ad 0) 9 ∧ zm_cv K M [.ref (ad 0)] h2 fun h3 => zm_Go E 0 0 56 [(0, .ref (ad 0)), (1, .int x), (2, .int (nI 0))] [] h3 := by
    intro M n hx hn hM
    refine ⟨X2.rc, _, hM, fun r h' q => ?_⟩
    obtain ⟨rfl, s3, X3, Q3⟩ := q
    exact ⟨rfl, k56 s3 h' hx X3 (Q3.mono hn)⟩
  refine ⟨fun _ => no, fun g0 => ⟨fun g3 => ⟨fun n1 => ⟨fun n2 => ⟨fun n3 => ?_, fun e => call _ _ (by rw [e]; decide) (by decide) (r_writeDictionary X2 R z15)⟩, fun e => call _ _ (by rw [e]; decide) (by decide) (r_writeFront X2 R z15)⟩, fun e => call _ _ (by rw [e]; decide) (by decide) (r_writeLengths X2 R z15)⟩, fun _ => no⟩⟩
  obtain ⟨j, hj, rfl⟩ := nI_of2 (M := nI 3) (n := 3) (by decide) g0 g3
  have hj0 : j = 0 := by
    rcases j with _ | _ | _ | _ | j
    · rfl
    · exact absurd rfl n1
    · exact absurd rfl n2
    · exact absurd rfl n3
    · omega
  subst hj0
  suffices key : ∀ (m k : Nat) (s3 : mS) (h3 : zm_H), zM K ad s3 h3 → mQ (2 * k + f k) s2 s3 → k ≤ s2.fi 7 → s2.fi 7 - k < m → zm_Go E 0 0 56 [(0, .ref (ad 0)), (1, .int (nI 0)), (2, .int (nI k))] [] h3 from key 1001 0 s2 h2 X2 (mQ.rf _ _) (by omega) (by omega)
  intro m
  induction m with
  | zero => intro k s3 h3 _ _ _ g; omega
  | succ m ih =>
    intro k s3 h3 X3 Q3 hk hm
    have hfk := R.2.2.1 k
    have I3 := I2.wr Q3 z15 (by omega)
    have e7 := Q3.1 7 (by decide) (by decide)
    have hq := Q3.2.2.1
    refine B_X9_write_56 C Rt (Nat.le_refl 0) (Nat.le_refl 0) (X3.gI 7 rfl ⟨fun _ => X3.gI 15 rfl ⟨⟨_, rfl⟩, s3, X3, I3⟩, fun g => ⟨fun _ => X3.gI 15 rfl ⟨⟨_, rfl⟩, s3, X3, I3⟩, fun _ => ?_⟩⟩)
    have hkc : k < s2.fi 7 := by
      rcases Nat.lt_or_ge k (s2.fi 7) with z | z
      · exact z
      · exact absurd (by rw [e7]; exact nI_le z (by omega)) g
    have hg := R.2.2.2 k hkc
    have hf1 := R.2.2.1 (k + 1)
    refine ⟨X3.rc, m_cv (r_putText X3 (Q3.row R) (by omega) (by omega)) fun s4 h4 X4 O4 => ?_⟩
    rw [nI_add]
    exact ih (k + 1) s4 h4 X4 ((Q3.trans O4.q).mono (by omega)) (by omega) (by omega)
def poF (K : zm_K) (ad : Nat → Nat) (T : Nat) : zm_Po := fun r h' => ∃ s', zM K ad s' h' ∧ ((T + 20 ≤ 24000 ∧ r = some (.int (nI 1)) ∧ mI (T + 20) s') ∨ (¬ T + 20 ≤ 24000 ∧ r = some (.int (nI 0)) ∧ mI T s'))
theorem mI.s10 {s : mS} (I : mI T s) {k : Nat} {x : Int32} : mI T (s.sa 10 k (x &&& nI 255)) := ⟨I.1, I.2.1, I.2.2.1, I.2.2.2.1, I.2.2.2.2.1, I.2.2.2.2.2.1, I.2.2.2.2.2.2.1.up (mB_and x), I.2.2.2.2.2.2.2⟩
theorem r_feed (X : zM K ad s h) (I : mI T s) {x1 x2 x3 x4 x5 : Int32} : zm_Ct K M_X9_feed [.ref (ad 0), .int x1, .int x2, .int x3, .int x4, .int x5] h (poF K ad T) := by
  refine zm_meet (by decide) (Nat.le_of_ble_eq_true rfl) ?_
  intro E C Rt _
  have hT := I.2.1
  refine B_X9_feed_0 C Rt (Nat.le_refl 0) (Nat.le_refl 0) (X.pf 0 0 rfl (by decide) rfl fun h1 X1 => X1.gI 13 rfl ?_)
  have I1 : mI T (s.pf 0 0) := I.p0
  rw [I1.1, nI_add]
  refine ⟨fun g => ?_, fun g => ⟨rfl, _, X1, Or.inr ⟨fun z => g (nI_le z (by decide)), rfl, I1⟩⟩⟩
  have hT2 : T + 20 ≤ 24000 := (nI_leI (by omega) (by decide)).mp g
  suffices key : ∀ (m k : Nat) (s2 : mS) (h2 : zm_H), zM K ad s2 h2 → mI T s2 → k ≤ 20 → 20 - k < m → zm_Go E 0 0 23 [(0, .ref (ad 0)), (1, .int x1), (2, .int x2), (3, .int x3), (4, .int x4), (5, .int x5), (6, .int (nI k))] [] h2 from key 21 0 _ h1 X1 I1 (by omega) (by omega)
  intro m
  induction m with
  | zero => intro k s2 h2 _ _ _ g; omega
  | succ m ih =>
    intro k s2 h2 X2 I2 hk hm
    refine B_X9_feed_23 C Rt (Nat.le_refl 0) (Nat.le_refl 0) ⟨fun _ => ?_, fun g2 => ?_⟩
    · refine X2.gI 13 rfl (X2.pf 13 (T + 20) rfl (by decide) (by rw [I2.1, nI_add]) fun h3 X3 => ⟨rfl, _, X3, Or.inl ⟨hT2, rfl, rfl, hT2, I2.2.2⟩⟩)
    · have hk2 : k < 20 := by
        rcases Nat.lt_or_ge k 20 with z | z
        · exact z
        · exact absurd (nI_le z (by omega)) g2
      have st : ∀ (x : Int32), zm_gR h2 (ad 0) 9 10 fun v => zm_gI h2 (ad 0) 9 13 fun v' => ¬ nI 4 = 0 ∧ zm_sI K h2 v (v' + nI k) (x &&& nI 255) fun h3 => zm_Go E 0 0 23 [(0, .ref (ad 0)), (1, .int x1), (2, .int x2), (3, .int x3), (4, .int x4), (5, .int x5), (6, .int (nI k + nI 1))] [] h3 := by
        intro x
        refine X2.gR 10 rfl (X2.gI 13 rfl ⟨by decide, X2.st 10 (T + k) (by decide) (show T + k < 24000 by omega) (by rw [I2.1, nI_add]) fun h3 X3 => ?_⟩)
        rw [nI_add]
        exact ih (k + 1) _ h3 X3 I2.s10 (by omega) (by omega)
      exact ⟨fun _ => ⟨fun _ => ⟨fun _ => ⟨fun _ => st _, fun _ => st _⟩, fun _ => st _⟩, fun _ => st _⟩, fun _ => st _⟩
def poN (K : zm_K) (ad : Nat → Nat) (T : Nat) (x : Int32) : zm_Po := fun r h' => ∃ s', zM K ad s' h' ∧ (((¬ x < 0 ∧ x ≤ nI T) ∧ r = some (.int (nI 1)) ∧ mI 0 s') ∨ (¬ (¬ x < 0 ∧ x ≤ nI T) ∧ r = some (.int (nI 0)) ∧ mI T s'))
theorem mI.s11 {s : mS} (I : mI T s) {k : Nat} {x : Int32} (hx : ∃ b, b < 256 ∧ x = nI b) : mI T (s.sa 11 k x) := ⟨I.1, I.2.1, I.2.2.1, I.2.2.2.1, I.2.2.2.2.1, I.2.2.2.2.2.1, I.2.2.2.2.2.2.1, I.2.2.2.2.2.2.2.1.up hx, I.2.2.2.2.2.2.2.2⟩
theorem r_end (X : zM K ad s h) (I : mI T s) {x : Int32} : zm_Ct K M_X9_end [.ref (ad 0), .int x] h (poN K ad T x) := by
  refine zm_meet (by decide) (Nat.le_of_ble_eq_true rfl) ?_
  intro E C Rt _
  have hT := I.2.1
  refine B_X9_end_0 C Rt (Nat.le_refl 0) (Nat.le_refl 0) (X.pf 0 0 rfl (by decide) rfl fun h1 X1 => ?_)
  have I1 : mI T (s.pf 0 0) := I.p0
  refine ⟨fun g => ⟨rfl, _, X1, Or.inr ⟨fun z => z.1 g, rfl, I1⟩⟩, fun g0 => X1.gI 13 rfl ?_⟩
  rw [I1.1]
  refine ⟨fun g => ?_, fun g => ⟨rfl, _, X1, Or.inr ⟨fun z => g z.2, rfl, I1⟩⟩⟩
  have ok : ¬ x < 0 ∧ x ≤ nI T := ⟨g0, g⟩
  obtain ⟨n, hn, rfl⟩ := nI_of2 (M := nI T) (n := T) (nI_toInt (by omega)) g0 g
  suffices key : ∀ (m k : Nat) (s2 : mS) (h2 : zm_H), zM K ad s2 h2 → mI T s2 → k ≤ n → n - k < m → zm_Go E 0 0 21 [(0, .ref (ad 0)), (1, .int (nI n)), (2, .int (nI k))] [] h2 from key (n + 1) 0 _ h1 X1 I1 (by omega) (by omega)
  intro m
  induction m with
  | zero => intro k s2 h2 _ _ _ g; omega
  | succ m ih =>
    intro k s2 h2 X2 I2 hk hm
    refine B_X9_end_21 C Rt (Nat.le_refl 0) (Nat.le_refl 0) ⟨fun _ => ?_, fun g2 => ?_⟩
    · exact X2.pf 14 n rfl (by decide) rfl fun h3 X3 => X3.pf 13 0 rfl (by decide) rfl fun h4 X4 => ⟨rfl, _, X4, Or.inl ⟨ok, rfl, rfl, by decide, (show n ≤ 24000 by omega), I2.2.2.2⟩⟩
    · have hk2 : k < n := by
        rcases Nat.lt_or_ge k n with z | z
        · exact z
        · exact absurd (nI_le z (by omega)) g2
      refine X2.gR 11 rfl (X2.gR 10 rfl (X2.ld 10 k (by decide) (show k < 24000 by omega) rfl (X2.st 11 k (by decide) (show k < 24000 by omega) rfl fun h3 X3 => ?_)))
      rw [nI_add]
      exact ih (k + 1) _ h3 X3 (I2.s11 (I2.2.2.2.2.2.2.1 k)) (by omega) (by omega)
theorem r_turn (X : zM K ad s h) (I : mI T s) : zm_Ct K M_X9_turn [.ref (ad 0)] h (fun r h' => r = some (.int (nI 1)) ∧ ∃ s', zM K ad s' h' ∧ mI T s') := by
  refine zm_meet (by decide) (Nat.le_of_ble_eq_true rfl) ?_
  intro E C Rt _
  refine B_X9_turn_0 C Rt (Nat.le_refl 0) (Nat.le_refl 0) (X.pf 0 0 rfl (by decide) rfl fun h1 X1 => X1.gI 15 rfl ?_)
  have I1 : mI T (s.pf 0 0) := I.p0
  have ho := I1.le.2.2.2.1
  refine ⟨fun _ => ?_, fun g => absurd (nI_le ho (by decide)) g⟩
  suffices key : ∀ (m k : Nat) (s2 : mS) (h2 : zm_H), zM K ad s2 h2 → mI T s2 → k ≤ s2.fi 15 → s2.fi 15 - k < m → zm_Go E 0 0 19 [(0, .ref (ad 0)), (1, .int (nI k))] [] h2 from key 24001 0 _ h1 X1 I1 (by omega) (by omega)
  intro m
  induction m with
  | zero => intro k s2 h2 _ _ _ g; omega
  | succ m ih =>
    intro k s2 h2 X2 I2 hk hm
    have ho2 := I2.le.2.2.2.1
    refine B_X9_turn_19 C Rt (Nat.le_refl 0) (Nat.le_refl 0) (X2.gI 15 rfl ⟨fun _ => ?_, fun g2 => ?_⟩)
    · exact X2.gI 15 rfl (X2.pf 14 (s2.fi 15) rfl (by decide) rfl fun h3 X3 => ⟨rfl, rfl, _, X3, I2.1, I2.2.1, ho2, I2.2.2.2⟩)
    · have hk2 : k < s2.fi 15 := by
        rcases Nat.lt_or_ge k (s2.fi 15) with z | z
        · exact z
        · exact absurd (nI_le z (by omega)) g2
      refine X2.gR 11 rfl (X2.gR 12 rfl (X2.ld 12 k (by decide) (show k < 60000 by omega) rfl (X2.st 11 k (by decide) (show k < 24000 by omega) rfl fun h3 X3 => ?_)))
      rw [nI_add]
      exact ih (k + 1) _ h3 X3 (I2.s11 (I2.2.2.2.2.2.2.2.2.1 k)) (show k + 1 ≤ s2.fi 15 by omega) (show s2.fi 15 - (k + 1) < m by omega)
theorem r_clear (X : zM K ad s h) (I : mI T s) : zm_Ct K M_X9_clear [.ref (ad 0)] h (fun r h' => r = none ∧ ∃ s', zM K ad s' h' ∧ mI T s') := by
  refine zm_meet (by decide) (Nat.le_of_ble_eq_true rfl) ?_
  intro E C Rt _
  obtain ⟨f, R⟩ := I.row
  refine B_X9_clear_0 C Rt (Nat.le_refl 0) (Nat.le_refl 0) (X.pf 0 0 rfl (by decide) rfl fun h1 X1 => X1.pf 7 0 rfl (by decide) rfl fun h2 X2 => ⟨rfl, _, X2, I.1, I.2.1, I.2.2.1, I.2.2.2.1, I.2.2.2.2.1, I.2.2.2.2.2.1, I.2.2.2.2.2.2.1, I.2.2.2.2.2.2.2.1, I.2.2.2.2.2.2.2.2.1, ⟨f, ?_⟩, I.2.2.2.2.2.2.2.2.2.2⟩)
  exact ⟨Nat.zero_le 1000, R.2.1, R.2.2.1, fun k hk => absurd (show k < 0 from hk) (by omega)⟩
theorem r_size (X : zM K ad s h) (I : mI T s) : zm_Ct K M_X9_size [.ref (ad 0)] h (poI K ad T) := by
  refine zm_meet (by decide) (Nat.le_of_ble_eq_true rfl) ?_
  intro E C Rt _
  exact B_X9_size_0 C Rt (Nat.le_refl 0) (Nat.le_refl 0) (X.pf 0 0 rfl (by decide) rfl fun h1 X1 => X1.gI 7 rfl ⟨⟨_, rfl⟩, _, X1, I.p0⟩)
theorem r_length (X : zM K ad s h) (I : mI T s) {x : Int32} : zm_Ct K M_X9_length [.ref (ad 0), .int x] h (poI K ad T) := by
  refine zm_meet (by decide) (Nat.le_of_ble_eq_true rfl) ?_
  intro E C Rt _
  obtain ⟨f, R⟩ := I.row
  have hc := R.1
  refine B_X9_length_0 C Rt (Nat.le_refl 0) (Nat.le_refl 0) (X.pf 0 0 rfl (by decide) rfl fun h1 X1 => ⟨fun _ => ⟨⟨_, rfl⟩, _, X1, I.p0⟩, fun g0 => X1.gI 7 rfl ⟨fun g => ?_, fun _ => ⟨⟨_, rfl⟩, _, X1, I.p0⟩⟩⟩)
  obtain ⟨k, hk, rfl⟩ := zix (n := s.fi 7) g0 g (by omega)
  exact m_lengthOf X1 (f := f) R hk rfl ⟨⟨_, rfl⟩, _, X1, I.p0⟩
theorem r_byteOf (X : zM K ad s h) (I : mI T s) {x y : Int32} : zm_Ct K M_X9_byteOf [.ref (ad 0), .int x, .int y] h (poI K ad T) := by
  refine zm_meet (by decide) (Nat.le_of_ble_eq_true rfl) ?_
  intro E C Rt _
  obtain ⟨f, R⟩ := I.row
  have hc := R.1
  refine B_X9_byteOf_0 C Rt (Nat.le_refl 0) (Nat.le_refl 0) (X.pf 0 0 rfl (by decide) rfl fun h1 X1 => ?_)
  have no : ∀ z : Int32, poI K ad T (some (.int z)) h1 := fun z => ⟨⟨_, rfl⟩, _, X1, I.p0⟩
  refine ⟨fun _ => no _, fun g0 => X1.gI 7 rfl ⟨fun _ => no _, fun g => ⟨fun _ => no _, fun g1 => ?_⟩⟩⟩
  obtain ⟨k, hk0, rfl⟩ := nI_of g0
  have hk : k < s.fi 7 := by
    rcases Nat.lt_or_ge k (s.fi 7) with z | z
    · exact z
    · exact absurd (nI_le z hk0) g
  have hg := (R.2.2.2 k hk).1
  have hf := R.2.2.1 (k + 1)
  refine m_lengthOf X1 (f := f) R hk rfl ⟨fun g2 => ?_, fun _ => no _⟩
  obtain ⟨i, hi, rfl⟩ := zix g1 g2 (by omega)
  exact X1.gR 4 rfl (X1.gR 1 rfl (X1.ld 1 k (by decide) (show k < 1001 by omega) rfl (X1.ld 4 (f k + i) (by decide) (show f k + i < 20000 by omega) (by rw [show (s.pf 0 0).ai 1 k = nI (f k) from R.2.1 k, nI_add]) (no _))))
theorem r_output (X : zM K ad s h) (I : mI T s) {x : Int32} : zm_Ct K M_X9_output [.ref (ad 0), .int x] h (poI K ad T) := by
  refine zm_meet (by decide) (Nat.le_of_ble_eq_true rfl) ?_
  intro E C Rt _
  have ho := I.le.2.2.2.1
  refine B_X9_output_0 C Rt (Nat.le_refl 0) (Nat.le_refl 0) (X.pf 0 0 rfl (by decide) rfl fun h1 X1 => ⟨fun _ => ⟨⟨_, rfl⟩, _, X1, I.p0⟩, fun g0 => X1.gI 15 rfl ⟨fun g => ?_, fun _ => ⟨⟨_, rfl⟩, _, X1, I.p0⟩⟩⟩)
  obtain ⟨k, hk, rfl⟩ := zix (n := s.fi 15) g0 g (by omega)
  exact X1.gR 12 rfl (X1.ld 12 k (by decide) (show k < 60000 by omega) rfl ⟨⟨_, rfl⟩, _, X1, I.p0⟩)
end ZNB
