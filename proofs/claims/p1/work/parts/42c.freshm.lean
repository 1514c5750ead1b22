/-! the first call on a fresh object: the reference -/
def mE (n : Nat) (s s' : mS) : Prop := (∀ k, k ≠ 15 → s'.fi k = s.fi k) ∧ (∀ j, j ≠ 12 → s'.ai j = s.ai j) ∧ s'.fi 15 = s.fi 15 + n
def poE9 (K : zm_K) (ad : Nat → Nat) (s : mS) (n : Nat) : zm_Po := fun r h' => r = none ∧ ∃ s', zM K ad s' h' ∧ mE n s s'
section ZF4
variable {K : zm_K} {ad : Nat → Nat} {s : mS} {h : zm_H}
theorem m9_size (X : zM K ad s00 h) : zm_Ct K M_X9_size [.ref (ad 0)] h (poA (nI 0)) := by
  refine zm_meet (by decide) (Nat.le_of_ble_eq_true rfl) ?_
  intro E C Rt _
  exact B_X9_size_0 C Rt (Nat.le_refl 0) (Nat.le_refl 0) (X.pf 0 0 rfl (by decide) rfl fun h1 X1 => X1.gI 7 rfl rfl)
theorem m9_length (X : zM K ad s00 h) {x : Int32} : zm_Ct K M_X9_length [.ref (ad 0), .int x] h (poA (-1)) := by
  refine zm_meet (by decide) (Nat.le_of_ble_eq_true rfl) ?_
  intro E C Rt _
  exact B_X9_length_0 C Rt (Nat.le_refl 0) (Nat.le_refl 0) (X.pf 0 0 rfl (by decide) rfl fun h1 X1 => ⟨fun _ => rfl, fun g0 => X1.gI 7 rfl ⟨fun g => absurd g g0, fun _ => rfl⟩⟩)
theorem m9_byteOf (X : zM K ad s00 h) {x y : Int32} : zm_Ct K M_X9_byteOf [.ref (ad 0), .int x, .int y] h (poA (-1)) := by
  refine zm_meet (by decide) (Nat.le_of_ble_eq_true rfl) ?_
  intro E C Rt _
  exact B_X9_byteOf_0 C Rt (Nat.le_refl 0) (Nat.le_refl 0) (X.pf 0 0 rfl (by decide) rfl fun h1 X1 => ⟨fun _ => rfl, fun g0 => X1.gI 7 rfl ⟨fun _ => rfl, fun z => absurd (Int32.not_lt.mp g0) z⟩⟩)
theorem m9_output (X : zM K ad s00 h) {x : Int32} : zm_Ct K M_X9_output [.ref (ad 0), .int x] h (poA (-1)) := by
  refine zm_meet (by decide) (Nat.le_of_ble_eq_true rfl) ?_
  intro E C Rt _
  exact B_X9_output_0 C Rt (Nat.le_refl 0) (Nat.le_refl 0) (X.pf 0 0 rfl (by decide) rfl fun h1 X1 => ⟨fun _ => rfl, fun g0 => X1.gI 15 rfl ⟨fun g => absurd g g0, fun _ => rfl⟩⟩)
theorem m9_add (X : zM K ad s00 h) {x : Int32} : zm_Ct K M_X9_add [.ref (ad 0), .int x] h (poA (a_add x)) := by
  refine zm_meet (by decide) (Nat.le_of_ble_eq_true rfl) ?_
  intro E C Rt _
  have e9 : nI 1000 - nI 0 = nI 1000 := by decide
  have no1 : ∀ h9, x < nI 1 → poA (a_add x) (some (.int (nI 0))) h9 := fun h9 w => by
    show some (Value.int (nI 0)) = some (Value.int (a_add x))
    rw [a_add, if_pos w]
  have no2 : ∀ h9, ¬ x < nI 1 → nI 1000 < x → poA (a_add x) (some (.int (nI 0))) h9 := fun h9 w w2 => by
    show some (Value.int (nI 0)) = some (Value.int (a_add x))
    rw [a_add, if_neg w, if_pos w2]
  refine B_X9_add_0 C Rt (Nat.le_refl 0) (Nat.le_refl 0) (X.pf 0 0 rfl (by decide) rfl fun h1 X1 => X1.gI 14 rfl ⟨fun z => absurd z (by decide), fun _ => ⟨fun g => ⟨rfl, no1 _ g⟩, fun g1 => X1.gI 7 rfl ⟨fun g => ⟨rfl, no2 _ g1 (by rw [← e9]; exact g)⟩, fun g2 => X1.gI 14 rfl (X1.gR 1 rfl (X1.gI 7 rfl (X1.ld 1 0 (by decide) (by decide) rfl ⟨fun _ => ?_, fun z => absurd ?_ z⟩)))⟩⟩⟩)
  · have gx : ¬ x < 0 := fun w => g1 (by
      rw [Int32.lt_iff_toInt_lt] at w ⊢
      have e0 : (0 : Int32).toInt = 0 := rfl
      have e1 : (nI 1).toInt = 1 := by decide
      omega)
    have g3 : ¬ nI 1000 < x := by
      rw [← e9]
      exact g2
    have ok : ∀ h9, poA (a_add x) (some (.int (nI 1))) h9 := fun h9 => by
      show some (Value.int (nI 1)) = some (Value.int (a_add x))
      rw [a_add, if_neg g1, if_neg g3]
    obtain ⟨n, hn0, rfl⟩ := nI_of gx
    have hn : n ≤ 1000 := by
      rcases Nat.lt_or_ge 1000 n with w | w
      · exact absurd (nI_lt w hn0) g3
      · exact w
    suffices key : ∀ (m k : Nat) (s2 : mS) (h2 : zm_H), zM K ad s2 h2 → s2.fi 7 = k → s2.fi 14 = 0 → k ≤ n → n - k < m → zm_Go E 0 0 62 [(0, .ref (ad 0)), (1, .int (nI n)), (2, .int (nI k))] [] h2 from key 1001 0 _ h1 X1 rfl rfl (by omega) (by omega)
    intro m
    induction m with
    | zero => intro k s2 h2 _ _ _ _ z; omega
    | succ m ih =>
      intro k s2 h2 X2 e7 e14 hk hm
      refine B_X9_add_62 C Rt (Nat.le_refl 0) (Nat.le_refl 0) ⟨fun _ => ⟨rfl, ok h2⟩, fun q => ?_⟩
      have hk2 : k < n := by
        rcases Nat.lt_or_ge k n with w | w
        · exact w
        · exact absurd (nI_le w (by omega)) q
      refine B_X9_add_69 C Rt (X2.gI 14 rfl ?_)
      rw [e14]
      refine ⟨fun _ => X2.gR 1 rfl (X2.gI 7 rfl (X2.gR 1 rfl (X2.gI 7 rfl (X2.ld 1 (s2.fi 7) (by decide) (show s2.fi 7 < 1001 by omega) rfl (X2.gI 14 rfl (X2.st 1 (s2.fi 7 + 1) (by decide) (show s2.fi 7 + 1 < 1001 by omega) (nI_add _ _) fun h4 X4 => X4.gI 7 rfl (X4.pf 7 (s2.fi 7 + 1) rfl (by decide) (nI_add _ _) fun h5 X5 => ?_))))))), fun z => absurd (by decide) z⟩
      rw [nI_add]
      exact ih (k + 1) _ h5 X5 (show s2.fi 7 + 1 = k + 1 by omega) e14 (by omega) (by omega)
  · have e : x.toInt64 * (nI 0).toInt64 = lN 0 := by
      rw [show (nI 0).toInt64 = 0 by decide, Int64.mul_zero]
      rfl
    show lg_cmp (x.toInt64 * (nI 0).toInt64) ((nI 20000 - nI 0).toInt64) ≤ 0
    rw [e]
    decide +kernel
theorem r9_put (X : zM K ad s h) (ho : s.fi 15 < 60000) {x : Int32} : zm_Ct K M_X9_put [.ref (ad 0), .int x] h (poE9 K ad s 1) := by
  refine zm_meet (by decide) (Nat.le_of_ble_eq_true rfl) ?_
  intro E C Rt _
  refine B_X9_put_0 C Rt (Nat.le_refl 0) (Nat.le_refl 0) ?_
  exact X.gR 12 rfl (X.gI 15 rfl (X.st 12 (s.fi 15) (by decide) ho rfl fun h1 X1 => X1.gI 15 rfl (X1.pf 15 (s.fi 15 + 1) rfl (by decide) (nI_add _ _) fun h2 X2 => ⟨rfl, _, X2, fun k hk => if_neg hk, fun j hj => if_neg hj, rfl⟩)))
theorem r9_putV (X : zM K ad s h) {x : Int64} (h1 : ¬ lg_cmp x (lN 0) < 0) (h2 : lg_cmp x (lN 127) ≤ 0) (ho : s.fi 15 < 60000) : zm_Ct K M_X9_putVarint [.ref (ad 0), .long x] h (poE9 K ad s 1) := by
  refine zm_meet (by decide) (Nat.le_of_ble_eq_true rfl) ?_
  intro E C Rt _
  exact B_X9_putVarint_0 C Rt (B_X9_putVarint_2 C Rt (Nat.le_refl 0) (Nat.le_refl 0) ⟨fun z => absurd z h1, fun _ => ⟨fun _ => ⟨X.rc, _, r9_put X ho, fun r h' q => ⟨q.1, rfl, q.2⟩⟩, fun z => absurd h2 z⟩⟩)
theorem r9_writeLongs (X : zM K ad s h) (h19 : s.fi 19 = 0) (ho : s.fi 15 < 60000) : zm_Ct K M_X9_writeLongs [.ref (ad 0)] h (poE9 K ad s 1) := by
  refine zm_meet (by decide) (Nat.le_of_ble_eq_true rfl) ?_
  intro E C Rt _
  refine B_X9_writeLongs_0 C Rt (Nat.le_refl 0) (Nat.le_refl 0) (X.gI 19 rfl ?_)
  rw [h19]
  refine ⟨X.rc, _, r9_putV X (by decide +kernel) (by decide +kernel) ho, fun r h1 q => ?_⟩
  obtain ⟨rfl, s1, X1, O1⟩ := q
  have e19 : s1.fi 19 = 0 := (O1.1 19 (by decide)).trans h19
  refine ⟨rfl, X1.gI 19 rfl ?_⟩
  rw [e19]
  refine ⟨fun _ => B_X9_writeLongs_31 C Rt (Nat.le_refl 0) (Nat.le_refl 0) (X1.gI 19 rfl ?_), fun z => absurd (by decide) z⟩
  rw [e19]
  exact ⟨fun _ => ⟨rfl, s1, X1, O1⟩, fun z => absurd (by decide) z⟩
theorem r9_writeCode (X : zM K ad s h) (h19 : s.fi 19 = 0) (ho : s.fi 15 ≤ 100) : zm_Ct K M_X9_writeCode [.ref (ad 0)] h (poE9 K ad s 2) := by
  refine zm_meet (by decide) (Nat.le_of_ble_eq_true rfl) ?_
  intro E C Rt _
  refine B_X9_writeCode_0 C Rt (Nat.le_refl 0) (Nat.le_refl 0) (X.gI 15 rfl ⟨X.rc, _, r9_writeLongs X h19 (by omega), fun r h1 q => ?_⟩)
  obtain ⟨rfl, s1, X1, O1⟩ := q
  refine ⟨rfl, X1.gI 15 rfl (X1.pf 15 (s.fi 15) rfl (by decide) rfl fun h2 X2 => ?_)⟩
  rw [O1.2.2, znsub (Nat.le_add_right (s.fi 15) 1), Nat.add_sub_cancel_left]
  refine ⟨X2.rc, _, r9_putV X2 (by decide +kernel) (by decide +kernel) (show s.fi 15 < 60000 by omega), fun r h3 q => ?_⟩
  obtain ⟨rfl, s3, X3, O3⟩ := q
  have e19 : s3.fi 19 = 0 := (O3.1 19 (by decide)).trans ((O1.1 19 (by decide)).trans h19)
  have e15 : s3.fi 15 = s.fi 15 + 1 := O3.2.2
  refine ⟨rfl, X3.rc, _, r9_writeLongs X3 e19 (by omega), fun r h4 q => ?_⟩
  obtain ⟨rfl, s4, X4, O4⟩ := q
  exact ⟨rfl, rfl, s4, X4, fun k hk => (O4.1 k hk).trans ((O3.1 k hk).trans ((if_neg hk).trans (O1.1 k hk))), fun j hj => (O4.2.1 j hj).trans ((O3.2.1 j hj).trans (O1.2.1 j hj)), by rw [O4.2.2, e15]⟩
def poW9 (K : zm_K) (ad : Nat → Nat) (n : Nat) : zm_Po := fun r h' => r = none ∧ ∃ s', zM K ad s' h' ∧ s'.fi 7 = 0 ∧ s'.fi 15 = n
theorem r9_writeLengths (X : zM K ad s h) (h7 : s.fi 7 = 0) (ha : s.ai 1 0 = nI 0) (ho : s.fi 15 = 0) : zm_Ct K M_X9_writeLengths [.ref (ad 0)] h (poW9 K ad 2) := by
  refine zm_meet (by decide) (Nat.le_of_ble_eq_true rfl) ?_
  intro E C Rt _
  refine B_X9_writeLengths_0 C Rt (X.gI 7 rfl (X.pf 19 (s.fi 7) rfl (by decide) rfl fun h1 X1 => ?_))
  refine B_X9_writeLengths_10 C Rt (Nat.le_refl 0) (Nat.le_refl 0) (X1.gI 7 rfl ?_)
  have e7 : (s.pf 19 (s.fi 7)).fi 7 = 0 := h7
  rw [e7]
  refine ⟨fun _ => ⟨X1.rc, _, r9_writeCode X1 (show s.fi 7 = 0 from h7) (show s.fi 15 ≤ 100 by omega), fun r h2 q => ?_⟩, fun z => absurd (by decide) z⟩
  obtain ⟨rfl, s2, X2, O2⟩ := q
  have f7 : s2.fi 7 = 0 := (O2.1 7 (by decide)).trans h7
  have a1 : s2.ai 1 = s.ai 1 := O2.2.1 1 (by decide)
  have f15 : s2.fi 15 = 2 := by
    rw [O2.2.2]
    show s.fi 15 + 2 = 2
    omega
  refine ⟨rfl, B_X9_writeLengths_42 C Rt (Nat.le_refl 0) (Nat.le_refl 0) (X2.gR 1 rfl (X2.gI 7 rfl (X2.ld 1 0 (by decide) (by decide) (by rw [f7]) ?_)))⟩
  rw [a1, ha]
  exact ⟨fun _ => ⟨rfl, s2, X2, f7, f15⟩, fun z => absurd (by decide) z⟩
theorem r9_writeFront (X : zM K ad s h) (h7 : s.fi 7 = 0) (ho : s.fi 15 = 0) : zm_Ct K M_X9_writeFront [.ref (ad 0)] h (poW9 K ad 4) := by
  refine zm_meet (by decide) (Nat.le_of_ble_eq_true rfl) ?_
  intro E C Rt _
  refine B_X9_writeFront_0 C Rt (X.gI 7 rfl (X.pf 19 (s.fi 7) rfl (by decide) rfl fun h1 X1 => ?_))
  refine B_X9_writeFront_10 C Rt (Nat.le_refl 0) (Nat.le_refl 0) (X1.gI 7 rfl ?_)
  have e7 : (s.pf 19 (s.fi 7)).fi 7 = 0 := h7
  rw [e7]
  refine ⟨fun _ => ⟨X1.rc, _, r9_writeCode X1 (show s.fi 7 = 0 from h7) (show s.fi 15 ≤ 100 by omega), fun r h2 q => ?_⟩, fun z => absurd (by decide) z⟩
  obtain ⟨rfl, s2, X2, O2⟩ := q
  have f7 : s2.fi 7 = 0 := (O2.1 7 (by decide)).trans h7
  have f19 : s2.fi 19 = 0 := (O2.1 19 (by decide)).trans h7
  have f15 : s2.fi 15 = 2 := by
    rw [O2.2.2]
    show s.fi 15 + 2 = 2
    omega
  refine ⟨rfl, B_X9_writeFront_42 C Rt (Nat.le_refl 0) (Nat.le_refl 0) (X2.gI 7 rfl ?_)⟩
  rw [f7]
  refine ⟨fun _ => ⟨X2.rc, _, r9_writeCode X2 f19 (by omega), fun r h3 q => ?_⟩, fun z => absurd (by decide) z⟩
  obtain ⟨rfl, s3, X3, O3⟩ := q
  have g7 : s3.fi 7 = 0 := (O3.1 7 (by decide)).trans f7
  refine ⟨rfl, B_X9_writeFront_80 C Rt (Nat.le_refl 0) (Nat.le_refl 0) (X3.gI 7 rfl ?_)⟩
  rw [g7]
  exact ⟨fun _ => ⟨rfl, s3, X3, g7, by rw [O3.2.2, f15]⟩, fun z => absurd (by decide) z⟩
theorem r9_writeDictionary (X : zM K ad s h) (h7 : s.fi 7 = 0) (ho : s.fi 15 = 0) : zm_Ct K M_X9_writeDictionary [.ref (ad 0)] h (poW9 K ad 2) := by
  refine zm_meet (by decide) (Nat.le_of_ble_eq_true rfl) ?_
  intro E C Rt _
  refine B_X9_writeDictionary_0 C Rt (B_X9_writeDictionary_4 C Rt (Nat.le_refl 0) (Nat.le_refl 0) (X.gI 7 rfl ?_))
  rw [h7]
  refine ⟨fun _ => ⟨X.rc, _, r9_putV X (by decide +kernel) (by decide +kernel) (by omega), fun r h1 q => ?_⟩, fun z => absurd (by decide) z⟩
  obtain ⟨rfl, s1, X1, O1⟩ := q
  have f7 : s1.fi 7 = 0 := (O1.1 7 (by decide)).trans h7
  have f15 : s1.fi 15 = 1 := by
    rw [O1.2.2, ho]
  refine ⟨rfl, B_X9_writeDictionary_66 C Rt (Nat.le_refl 0) (Nat.le_refl 0) (X1.gI 7 rfl ?_)⟩
  rw [f7]
  refine ⟨fun _ => B_X9_writeDictionary_96 C Rt (Nat.le_refl 0) (Nat.le_refl 0) ⟨fun _ => ⟨X1.rc, _, r9_put X1 (by omega), fun r h2 q => ?_⟩, fun z => absurd (by decide +kernel) z⟩, fun z => absurd (by decide) z⟩
  obtain ⟨rfl, s2, X2, O2⟩ := q
  have g7 : s2.fi 7 = 0 := (O2.1 7 (by decide)).trans f7
  have g15 : s2.fi 15 = 2 := by
    rw [O2.2.2, f15]
  refine ⟨rfl, X2.gR 20 rfl (X2.gI 7 rfl ?_)⟩
  rw [g7]
  have M : zm_Ct K M_X9_writeRuns [.ref (ad 0), .ref (ad 20), .int (nI 0), .int (nI 0)] h2 (fun r h' => r = none ∧ h' = h2) := by
    refine zm_meet (by decide) (Nat.le_of_ble_eq_true rfl) ?_
    intro E C Rt _
    exact B_X9_writeRuns_0 C Rt (B_X9_writeRuns_3 C Rt (Nat.le_refl 0) (Nat.le_refl 0) ⟨fun _ => ⟨rfl, rfl⟩, fun z => absurd (by decide) z⟩)
  refine ⟨X2.rc, _, M, fun r h' q => ?_⟩
  obtain ⟨rfl, rfl⟩ := q
  exact ⟨rfl, rfl, s2, X2, g7, g15⟩
theorem aw_neg {x : Int32} (g : x < 0) : a_write x = -1 := by
  rw [a_write, if_neg (fun e => by rw [e] at g; exact absurd g (by decide)), if_neg (fun e => by rw [e] at g; exact absurd g (by decide)), if_neg (fun e => by rw [e] at g; exact absurd g (by decide)), if_neg (fun e => by rw [e] at g; exact absurd g (by decide))]
theorem aw_big {x : Int32} (g : ¬ x ≤ nI 3) : a_write x = -1 := by
  rw [a_write, if_neg (fun e => by rw [e] at g; exact absurd (by decide) g), if_neg (fun e => by rw [e] at g; exact absurd (by decide) g), if_neg (fun e => by rw [e] at g; exact absurd (by decide) g), if_neg (fun e => by rw [e] at g; exact absurd (by decide) g)]
theorem m9_write (X : zM K ad s00 h) {x : Int32} : zm_Ct K M_X9_write [.ref (ad 0), .int x] h (poA (a_write x)) := by
  refine zm_meet (by decide) (Nat.le_of_ble_eq_true rfl) ?_
  intro E C Rt _
  have ans : ∀ {z : Int32} {h9 : zm_H}, a_write x = z → poA (a_write x) (some (.int z)) h9 := fun {z} {h9} e => by
    show some (Value.int z) = some (Value.int (a_write x))
    rw [e]
  refine B_X9_write_0 C Rt (Nat.le_refl 0) (Nat.le_refl 0) (X.pf 0 0 rfl (by decide) rfl fun h1 X1 => X1.pf 15 0 rfl (by decide) rfl fun h2 X2 => ?_)
  have k7 : ((s00.pf 0 0).pf 15 0).fi 7 = 0 := rfl
  have k15 : ((s00.pf 0 0).pf 15 0).fi 15 = 0 := rfl
  have ka : ((s00.pf 0 0).pf 15 0).ai 1 0 = nI 0 := rfl
  generalize (s00.pf 0 0).pf 15 0 = s2 at X2 k7 k15 ka
  have fin : ∀ (n : Nat) (s3 : mS) (h3 : zm_H), zM K ad s3 h3 → s3.fi 7 = 0 → s3.fi 15 = n → a_write x = nI n → zm_Go E 0 0 56 [(0, .ref (ad 0)), (1, .int x), (2, .int (nI 0))] [] h3 := by
    intro n s3 h3 X3 e7 e15 ea
    refine B_X9_write_56 C Rt (Nat.le_refl 0) (Nat.le_refl 0) (X3.gI 7 rfl ?_)
    rw [e7]
    refine ⟨fun _ => X3.gI 15 rfl ?_, fun z => absurd (by decide) z⟩
    rw [e15]
    exact ans ea
  have call : ∀ (M : zm_M) (n : Nat), a_write x = nI n → zm_Ct K M [.ref (ad 0)] h2 (poW9 K ad n) → zm_rc h2 (ad 0) 9 ∧ zm_cv K M [.ref (ad 0)] h2 fun h3 => zm_Go E 0 0 56 [(0, .ref (ad 0)), (1, .int x), (2, .int (nI 0))] [] h3 := by
    intro M n ea hM
    refine ⟨X2.rc, _, hM, fun r h' q => ?_⟩
    obtain ⟨rfl, s3, X3, e7, e15⟩ := q
    exact ⟨rfl, fin n s3 h' X3 e7 e15 ea⟩
  refine ⟨fun g => ans (aw_neg g), fun g0 => ⟨fun g3 => ⟨fun n1 => ⟨fun n2 => ⟨fun n3 => ?_, fun e => call _ 2 (by rw [e]; decide) (r9_writeDictionary X2 k7 k15)⟩, fun e => call _ 4 (by rw [e]; decide) (r9_writeFront X2 k7 k15)⟩, fun e => call _ 2 (by rw [e]; decide) (r9_writeLengths X2 k7 ka k15)⟩, fun g => ans (aw_big g)⟩⟩
  refine fin 0 s2 h2 X2 k7 k15 ?_
  obtain ⟨j, hj, rfl⟩ := nI_of2 (M := nI 3) (n := 3) (by decide) g0 g3
  have hj0 : j = 0 := by
    rcases j with _ | _ | _ | _ | j
    · rfl
    · exact absurd rfl n1
    · exact absurd rfl n2
    · exact absurd rfl n3
    · omega
  subst hj0
  decide
theorem zM.f1 (X : zM K ad (s.pf 17 1) h) {P Q : Prop} (hP : P) : zm_gI h (ad 0) 9 17 fun v => (¬ v = 0 → P) ∧ (v = 0 → Q) := X.gI 17 rfl ⟨fun _ => hP, fun z => absurd (show nI 1 = 0 from z) (by decide)⟩
theorem zM.f1r (X : zM K ad (s.pf 17 1) h) {P Q : Prop} (hQ : Q) : zm_gI h (ad 0) 9 17 fun v => (v = 0 → P) ∧ (¬ v = 0 → Q) := X.gI 17 rfl ⟨fun z => absurd (show nI 1 = 0 from z) (by decide), fun _ => hQ⟩
theorem zM.f0 (X : zM K ad s h) (h17 : s.fi 17 = 0) {P Q : Prop} (hQ : Q) : zm_gI h (ad 0) 9 17 fun v => (¬ v = 0 → P) ∧ (v = 0 → Q) := X.gI 17 rfl ⟨fun z => absurd (by rw [h17]; rfl) z, fun _ => hQ⟩
theorem zM.f0r (X : zM K ad s h) (h17 : s.fi 17 = 0) {P Q : Prop} (hP : P) : zm_gI h (ad 0) 9 17 fun v => (v = 0 → P) ∧ (¬ v = 0 → Q) := X.gI 17 rfl ⟨fun _ => hP, fun z => absurd (by rw [h17]; rfl) z⟩
theorem r9_varint (X : zM K ad s h) (h17 : s.fi 17 = 0) (h16 : s.fi 16 = 0) : zm_Ct K M_X9_varint [.ref (ad 0), .int (nI 0)] h (fun r h' => (∃ y : Int64, r = some (.long y)) ∧ zM K ad (s.pf 17 1) h') := by
  refine zm_meet (by decide) (Nat.le_of_ble_eq_true rfl) ?_
  intro E C Rt _
  refine B_X9_varint_0 C Rt (B_X9_varint_5 C Rt (Nat.le_refl 0) (Nat.le_refl 0) (X.f0 h17 (X.gI 16 rfl ?_)))
  rw [h16]
  exact ⟨fun z => absurd z (by decide), fun _ => X.pf 17 1 rfl (by decide) rfl fun h5 X5 => B_X9_varint_5 C Rt (Nat.le_refl 0) (Nat.le_refl 0) (X5.f1 ⟨⟨_, rfl⟩, X5⟩)⟩
def poR9 (K : zm_K) (ad : Nat → Nat) (s : mS) : zm_Po := fun r h' => r = none ∧ zM K ad (s.pf 17 1) h'
theorem r9_readPlain (X : zM K ad s h) (h17 : s.fi 17 = 0) (h16 : s.fi 16 = 0) (h14 : s.fi 14 = 0) {y : Int32} : zm_Ct K M_X9_readPlain [.ref (ad 0), .int y] h (fun r h' => r = none ∧ ((y ≤ nI 0 ∧ zM K ad s h') ∨ (¬ y ≤ nI 0 ∧ zM K ad (s.pf 17 1) h'))) := by
  refine zm_meet (by decide) (Nat.le_of_ble_eq_true rfl) ?_
  intro E C Rt _
  refine B_X9_readPlain_0 C Rt (B_X9_readPlain_2 C Rt (Nat.le_refl 0) (Nat.le_refl 0) ⟨fun g => ⟨rfl, Or.inl ⟨g, X⟩⟩, fun g => X.f0 h17 (X.gI 14 rfl ?_)⟩)
  rw [h14]
  refine ⟨X.rc, _, r9_varint X h17 h16, fun r h1 q => ?_⟩
  obtain ⟨⟨l, rfl⟩, X1⟩ := q
  exact ⟨l, rfl, X1.f1 (X1.f1 (B_X9_readPlain_2 C Rt (Nat.le_refl 0) (Nat.le_refl 0) ⟨fun _ => ⟨rfl, Or.inr ⟨g, X1⟩⟩, fun _ => X1.f1 ⟨rfl, Or.inr ⟨g, X1⟩⟩⟩))⟩
theorem r9_readCode (X : zM K ad s h) (h17 : s.fi 17 = 0) (h16 : s.fi 16 = 0) (h14 : s.fi 14 = 0) {y : Int32} : zm_Ct K M_X9_readCode [.ref (ad 0), .int y] h (poR9 K ad s) := by
  refine zm_meet (by decide) (Nat.le_of_ble_eq_true rfl) ?_
  intro E C Rt _
  refine B_X9_readCode_0 C Rt (Nat.le_refl 0) (Nat.le_refl 0) (X.gI 14 rfl ?_)
  rw [h14]
  refine ⟨X.rc, _, r9_varint X h17 h16, fun r h1 q => ?_⟩
  obtain ⟨⟨l, rfl⟩, X1⟩ := q
  exact ⟨l, rfl, X1.f1 (B_X9_readCode_42 C Rt (Nat.le_refl 0) (Nat.le_refl 0) (X1.f1r ⟨rfl, X1⟩))⟩
theorem r9_readLengths (X : zM K ad s h) (h17 : s.fi 17 = 0) (h16 : s.fi 16 = 0) (h14 : s.fi 14 = 0) {y : Int32} : zm_Ct K M_X9_readLengths [.ref (ad 0), .int y] h (poR9 K ad s) := by
  refine zm_meet (by decide) (Nat.le_of_ble_eq_true rfl) ?_
  intro E C Rt _
  refine B_X9_readLengths_0 C Rt (Nat.le_refl 0) (Nat.le_refl 0) ⟨X.rc, _, r9_readCode X h17 h16 h14, fun r h1 q => ?_⟩
  obtain ⟨rfl, X1⟩ := q
  have fin : zm_Go E 0 0 57 [(0, .ref (ad 0)), (1, .int y), (2, .int (nI 0))] [] h1 := B_X9_readLengths_57 C Rt (Nat.le_refl 0) (Nat.le_refl 0) ⟨fun _ => ⟨rfl, X1⟩, fun _ => X1.f1 ⟨rfl, X1⟩⟩
  exact ⟨rfl, B_X9_readLengths_7 C Rt ⟨fun _ => fin, fun _ => X1.f1 fin⟩⟩
theorem r9_readFront (X : zM K ad s h) (h17 : s.fi 17 = 0) (h16 : s.fi 16 = 0) (h14 : s.fi 14 = 0) {y : Int32} : zm_Ct K M_X9_readFront [.ref (ad 0), .int y] h (poR9 K ad s) := by
  refine zm_meet (by decide) (Nat.le_of_ble_eq_true rfl) ?_
  intro E C Rt _
  refine B_X9_readFront_0 C Rt (Nat.le_refl 0) (Nat.le_refl 0) ⟨X.rc, _, r9_readCode X h17 h16 h14, fun r h1 q => ?_⟩
  obtain ⟨rfl, X1⟩ := q
  have g89 : zm_Go E 0 0 89 [(0, .ref (ad 0)), (1, .int y), (2, .int (nI 0))] [] h1 := B_X9_readFront_89 C Rt (Nat.le_refl 0) (Nat.le_refl 0) ⟨fun _ => ⟨rfl, X1⟩, fun _ => X1.f1 ⟨rfl, X1⟩⟩
  have g54 : zm_Go E 0 0 54 [(0, .ref (ad 0)), (1, .int y), (2, .int (nI 0))] [] h1 := B_X9_readFront_54 C Rt (Nat.le_refl 0) (Nat.le_refl 0) ⟨fun _ => g89, fun _ => X1.f1 g89⟩
  exact ⟨rfl, B_X9_readFront_7 C Rt (Nat.le_refl 0) (Nat.le_refl 0) ⟨fun _ => X1.f1 g54, fun _ => X1.f1 (X1.f1 g54)⟩⟩
theorem r9_readDictionary (X : zM K ad s h) (h17 : s.fi 17 = 0) (h16 : s.fi 16 = 0) (h14 : s.fi 14 = 0) {y : Int32} : zm_Ct K M_X9_readDictionary [.ref (ad 0), .int y] h (poR9 K ad s) := by
  refine zm_meet (by decide) (Nat.le_of_ble_eq_true rfl) ?_
  intro E C Rt _
  refine B_X9_readDictionary_0 C Rt (Nat.le_refl 0) (Nat.le_refl 0) (X.gI 14 rfl ?_)
  rw [h14]
  refine ⟨X.rc, _, r9_varint X h17 h16, fun r h1 q => ?_⟩
  obtain ⟨⟨l, rfl⟩, X1⟩ := q
  exact ⟨l, rfl, X1.f1 (X1.f1r ⟨rfl, X1⟩)⟩
theorem m9_read (X : zM K ad s00 h) {x y : Int32} : zm_Ct K M_X9_read [.ref (ad 0), .int x, .int y] h (poA (a_read x y)) := by
  refine zm_meet (by decide) (Nat.le_of_ble_eq_true rfl) ?_
  intro E C Rt _
  have ans : ∀ {z : Int32} {h9 : zm_H}, a_read x y = z → poA (a_read x y) (some (.int z)) h9 := fun {z} {h9} e => by
    show some (Value.int z) = some (Value.int (a_read x y))
    rw [e]
  refine B_X9_read_0 C Rt (Nat.le_refl 0) (Nat.le_refl 0) (X.pf 0 0 rfl (by decide) rfl fun h1 X1 => ?_)
  have no : a_read x y = -1 → zm_Go E 0 0 25 [] [] h1 := fun e => B_X9_read_25 C Rt (Nat.le_refl 0) (Nat.le_refl 0) (ans e)
  have neg : ∀ {x : Int32}, (x < 0 ∨ nI 3 < x) → ¬ x = nI 0 ∧ ¬ x = nI 1 ∧ ¬ x = nI 2 ∧ ¬ x = nI 3 := fun {x} w => ⟨fun e => by rw [e] at w; exact absurd w (by decide), fun e => by rw [e] at w; exact absurd w (by decide), fun e => by rw [e] at w; exact absurd w (by decide), fun e => by rw [e] at w; exact absurd w (by decide)⟩
  have out : (x < 0 ∨ nI 3 < x) → a_read x y = -1 := fun w => by
    obtain ⟨n0, n1, n2, n3⟩ := neg w
    rw [a_read, if_neg n0, if_neg n1, if_neg n2, if_neg n3]
    split
    · rfl
    · split
      · rfl
      · rfl
  refine ⟨fun g => no (out (Or.inl g)), fun gx => ⟨fun g => no (out (Or.inr g)), fun gx3 => ⟨fun g => no (by rw [a_read, if_pos g]), fun g0 => ⟨fun g1 => X1.pf 16 0 rfl (by decide) rfl fun h2 X2 => X2.pf 17 0 rfl (by decide) rfl fun h3 X3 => X3.pf 8 0 rfl (by decide) rfl fun h4 X4 => ?_, fun g => no (by rw [a_read, if_neg g0, if_neg g])⟩⟩⟩⟩
  have one : ∀ {s5 : mS} {h5 : zm_H}, zM K ad (s5.pf 17 1) h5 → a_read x y = nI 1 → zm_Go E 0 0 85 [(0, .ref (ad 0)), (2, .int y)] [] h5 := fun {s5} {h5} X5 e => B_X9_read_85 C Rt (X5.f1 (B_X9_read_109 C Rt (Nat.le_refl 0) (Nat.le_refl 0) (X5.f1r (X5.gI 17 rfl (ans e)))))
  have call : ∀ (M : zm_M), a_read x y = nI 1 → zm_Ct K M [.ref (ad 0), .int y] h4 (poR9 K ad ((((s00.pf 0 0).pf 16 0).pf 17 0).pf 8 0)) → zm_rc h4 (ad 0) 9 ∧ zm_cv K M [.ref (ad 0), .int y] h4 fun h5 => zm_Go E 0 0 85 [(0, .ref (ad 0)), (2, .int y)] [] h5 := by
    intro M e hM
    refine ⟨X4.rc, _, hM, fun r h' q => ?_⟩
    obtain ⟨rfl, X5⟩ := q
    exact ⟨rfl, one X5 e⟩
  refine ⟨fun n0 => ⟨fun n1 => ⟨fun n2 => call _ ?_ (r9_readDictionary X4 rfl rfl rfl), fun e => call _ (by rw [e]; exact ar2 g0 g1) (r9_readFront X4 rfl rfl rfl)⟩, fun e => call _ (by rw [e]; exact ar1 g0 g1) (r9_readLengths X4 rfl rfl rfl)⟩, fun e => ⟨X4.rc, _, r9_readPlain X4 rfl rfl rfl, fun r h5 q => ?_⟩⟩
  · obtain ⟨j, hj, rfl⟩ := nI_of2 (M := nI 3) (n := 3) (by decide) gx (Int32.not_lt.mp gx3)
    have hj3 : j = 3 := by
      rcases j with _ | _ | _ | _ | j
      · exact absurd rfl n0
      · exact absurd rfl n1
      · exact absurd rfl n2
      · rfl
      · omega
    subst hj3
    exact ar3 g0 g1
  · obtain ⟨rfl, q⟩ := q
    replace e : x = nI 0 := e
    refine ⟨rfl, ?_⟩
    rcases q with ⟨gy, X5⟩ | ⟨gy, X5⟩
    · have ey : y = nI 0 := Int32.le_antisymm gy (Int32.not_lt.mp g0)
      have ea : a_read x y = nI 0 := by
        rw [a_read, if_neg g0, if_pos g1, if_pos e, if_pos gy]
      subst ey
      refine B_X9_read_85 C Rt (X5.f0 rfl (X5.gI 16 rfl (X5.gI 14 rfl ⟨fun _ => ?_, fun z => absurd (by decide) z⟩)))
      refine B_X9_read_109 C Rt (Nat.le_refl 0) (Nat.le_refl 0) (X5.f0r rfl (X5.pf 7 0 rfl (by decide) rfl fun h6 X6 => ?_))
      refine B_X9_read_128 C Rt ⟨fun z => absurd z (by decide), fun _ => X6.gR 1 rfl (X6.gR 2 rfl (X6.ld 2 0 (by decide) (by decide) rfl (X6.st 1 0 (by decide) (by decide) rfl fun h7 X7 => B_X9_read_128 C Rt ⟨fun _ => ?_, fun z => absurd (by decide) z⟩)))⟩
      exact B_X9_read_153 C Rt (Nat.le_refl 0) (Nat.le_refl 0) (X7.gR 1 rfl (X7.ld 1 0 (by decide) (by decide) rfl ⟨fun _ => ans ea, fun z => absurd (by decide) z⟩))
    · exact one X5 (by rw [a_read, if_neg g0, if_pos g1, if_pos e, if_neg gy])
end ZF4
