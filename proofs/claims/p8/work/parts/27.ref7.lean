theorem zdi {a b : Nat} (ha : a ≤ 255) (hb : b ≤ 255) : (lN a - lN b).toInt = (a : Int) - b := by
  rw [Int64.toInt_sub, lN_toInt (by omega), lN_toInt (by omega)]
  exact Int.bmod_eq_of_le (by omega) (by omega)
/-- lengths: the first c longs are 0 .. 255 -/
def mL (s : mS) (c : Nat) : Prop := ∀ k, k < c → ∃ v, v ≤ 255 ∧ s.lg k = lN v
theorem mL.df {s : mS} {c : Nat} (L : mL s c) {k : Nat} (hk : k + 1 < c) : -255 ≤ (mD s k).toInt ∧ (mD s k).toInt ≤ 255 := by
  obtain ⟨v, hv, e⟩ := L k (by omega)
  obtain ⟨v', hv', e'⟩ := L (k + 1) hk
  unfold mD
  rw [e, e', zdi hv' hv]
  omega
theorem mW_9 {s : mS} (L : mL s (s.fi 19)) : mW 9 s := by
  refine ⟨by decide, fun a b l hb hex hle k hka hkb => ?_⟩
  obtain ⟨k0, h0, h1, rfl⟩ := hex
  have d0 := L.df (k := k0) (by omega)
  have d1 := L.df (k := k) (by omega)
  have d2 := Int64.le_iff_toInt_le.mp (hle k hka hkb)
  refine ⟨((mD s k).toInt - (mD s k0).toInt).toNat, by omega, ?_⟩
  apply Int64.toInt_inj.mp
  rw [Int64.toInt_sub, lN_toInt (by omega), Int.toNat_of_nonneg (by omega)]
  exact Int.bmod_eq_of_le (by omega) (by omega)
/-- what writing changes -/
def mQ (n : Nat) (s s' : mS) : Prop := (∀ k, k ≠ 15 → k ≠ 19 → s'.fi k = s.fi k) ∧ (∀ j, j ≠ 12 → j ≠ 20 → s'.ai j = s.ai j) ∧ s'.fi 15 ≤ s.fi 15 + n ∧ (s.fi 19 ≤ 2000 → s'.fi 19 ≤ 2000) ∧ (mB (s.ai 12) → mB (s'.ai 12))
theorem mQ.rf (n : Nat) (s : mS) : mQ n s s := ⟨fun _ _ _ => rfl, fun _ _ _ => rfl, Nat.le_add_right _ _, fun q => q, fun q => q⟩
theorem mQ.trans {a b : Nat} {s s' s'' : mS} (h1 : mQ a s s') (h2 : mQ b s' s'') : mQ (a + b) s s'' := ⟨fun k x y => (h2.1 k x y).trans (h1.1 k x y), fun k x y => (h2.2.1 k x y).trans (h1.2.1 k x y), by have := h1.2.2.1; have := h2.2.2.1; omega, fun q => h2.2.2.2.1 (h1.2.2.2.1 q), fun q => h2.2.2.2.2 (h1.2.2.2.2 q)⟩
theorem mQ.mono {a b : Nat} {s s' : mS} (h1 : mQ a s s') (hab : a ≤ b) : mQ b s s' := ⟨h1.1, h1.2.1, by have := h1.2.2.1; omega, h1.2.2.2⟩
theorem mO.q {n : Nat} {s s' : mS} (O : mO n s s') : mQ n s s' := ⟨fun k x _ => O.fi k x, fun j x _ => O.ai j x, O.hi, fun q => by rw [O.fi 19 (by decide)]; exact q, O.by9⟩
theorem mQ.row {n : Nat} {s s' : mS} {f : Nat → Nat} (O : mQ n s s') (R : mRw s f) : mRw s' f := R.of (O.1 7 (by decide) (by decide)) (O.2.1 1 (by decide) (by decide))
theorem mQ.p19 {s : mS} {v : Nat} (hv : v ≤ 2000) : mQ 0 s (s.pf 19 v) := ⟨fun _ _ y => if_neg y, fun _ _ _ => rfl, Nat.le_refl _, fun _ => hv, fun q => q⟩
theorem mQ.sl {s : mS} {k : Nat} {x : Int64} : mQ 0 s (s.sl k x) := ⟨fun _ _ _ => rfl, fun _ _ _ => rfl, Nat.le_refl _, fun q => q, fun q => q⟩
theorem mQ.sa {s : mS} {k : Nat} {x : Int32} : mQ 0 s (s.sa 20 k x) := ⟨fun _ _ _ => rfl, fun _ _ y => if_neg y, Nat.le_refl _, fun q => q, fun q => q⟩
def poQ (K : zm_K) (ad : Nat → Nat) (s : mS) (n : Nat) : zm_Po := fun r h' => r = none ∧ ∃ s', zM K ad s' h' ∧ mQ n s s'
theorem mL.up {s : mS} {c v : Nat} (L : mL s c) (hv : v ≤ 255) : mL (s.sl c (lN v)) (c + 1) := fun k hk => by
  by_cases q : k = c
  · exact ⟨v, hv, if_pos q⟩
  · obtain ⟨v', hv', e⟩ := L k (by omega)
    exact ⟨v', hv', (show vp_updL s.lg c (lN v) k = s.lg k from if_neg q).trans e⟩
section ZMZ
variable {K : zm_K} {ad : Nat → Nat} {s : mS} {h : zm_H} {f : Nat → Nat}
theorem r_writeLengths (X : zM K ad s h) (R : mRw s f) (ho : s.fi 15 = 0) : zm_Ct K M_X9_writeLengths [.ref (ad 0)] h (poQ K ad s 21406) := by
  refine zm_meet (by decide) (Nat.le_of_ble_eq_true rfl) ?_
  intro E C Rt _
  have hc := R.1
  refine B_X9_writeLengths_0 C Rt (X.gI 7 rfl (X.pf 19 (s.fi 7) rfl (by decide) rfl fun h1 X1 => ?_))
  suffices k10 : ∀ (m k : Nat) (s2 : mS) (h2 : zm_H), zM K ad s2 h2 → mQ 0 s s2 → s2.fi 19 = s.fi 7 → mL s2 k → k ≤ s.fi 7 → s.fi 7 - k < m → zm_Go E 0 0 10 [(0, .ref (ad 0)), (1, .int (nI k))] [] h2 from k10 1001 0 _ h1 X1 (mQ.p19 (by omega)) rfl (fun k z => absurd z (by omega)) (by omega) (by omega)
  intro m
  induction m with
  | zero => intro k s2 h2 _ _ _ _ _ g; omega
  | succ m ih =>
    intro k s2 h2 X2 Q2 e19 L2 hk hm
    have e7 := Q2.1 7 (by decide) (by decide)
    have R2 := Q2.row R
    have hq15 := Q2.2.2.1
    refine B_X9_writeLengths_10 C Rt (Nat.le_refl 0) (Nat.le_refl 0) (X2.gI 7 rfl ⟨fun g => ?_, fun g => ?_⟩)
    · rw [e7] at g
      have hkc : s.fi 7 ≤ k := (nI_leI (by omega) (by omega)).mp g
      refine ⟨X2.rc, m_cv (r_writeCode X2 (B := 9) (T := 86) rfl (by omega) (mW_9 (by rw [e19]; exact fun j hj => L2 j (by omega))) (by omega)) fun s3 h3 X3 O3 => ?_⟩
      suffices k42 : ∀ (m4 i : Nat) (s4 : mS) (h4 : zm_H), zM K ad s4 h4 → mO i s3 s4 → i ≤ f (s.fi 7) → f (s.fi 7) - i < m4 → zm_Go E 0 0 42 [(0, .ref (ad 0)), (1, .int (nI i))] [] h4 from k42 20001 0 s3 h3 X3 (mO.rf 0 s3) (by omega) (by have := R.2.2.1 (s.fi 7); omega)
      intro m4
      induction m4 with
      | zero => intro i s4 h4 _ _ _ g; omega
      | succ m4 ih4 =>
        intro i s4 h4 X4 O4 hi hm4
        have R4 := O4.row (O3.row R2)
        have O5 := O3.trans O4
        have e74 : s4.fi 7 = s.fi 7 := (O5.fi 7 (by decide)).trans e7
        have hf := R.2.2.1 (s.fi 7)
        have h5 := O5.hi
        refine B_X9_writeLengths_42 C Rt (Nat.le_refl 0) (Nat.le_refl 0) (X4.gR 1 rfl (X4.gI 7 rfl (X4.ld 1 (s4.fi 7) (by decide) (show s4.fi 7 < 1001 by omega) rfl ?_)))
        rw [R4.2.1, e74]
        refine ⟨fun _ => ⟨rfl, s4, X4, (Q2.trans O5.q).mono (by omega)⟩, fun g4 => ?_⟩
        have hi2 : i < f (s.fi 7) := by
          rcases Nat.lt_or_ge i (f (s.fi 7)) with z | z
          · exact z
          · exact absurd (nI_le z (by omega)) g4
        refine X4.gR 4 rfl (X4.ld 4 i (by decide) (show i < 20000 by omega) rfl (m_put X4 (by omega) fun s6 h6 X6 O6 => ?_))
        rw [nI_add]
        exact ih4 (i + 1) s6 h6 X6 (O4.trans O6) (by omega) (by omega)
    · rw [e7] at g
      have hkc : k < s.fi 7 := by
        rcases Nat.lt_or_ge k (s.fi 7) with z | z
        · exact z
        · exact absurd (nI_le z (by omega)) g
      have hg := R.2.2.2 k hkc
      have hf := R.2.2.1 (k + 1)
      refine X2.gR 18 rfl (m_lengthOf X2 R2 (by omega) rfl (X2.sL k (by omega) rfl fun h3 X3 => ?_))
      rw [nI_l (by omega)] at X3
      rw [nI_add]
      exact ih (k + 1) _ h3 X3 (Q2.trans mQ.sl) e19 (L2.up (by omega)) (by omega) (by omega)
theorem r_writeFront (X : zM K ad s h) (R : mRw s f) (ho : s.fi 15 = 0) : zm_Ct K M_X9_writeFront [.ref (ad 0)] h (poQ K ad s 22812) := by
  refine zm_meet (by decide) (Nat.le_of_ble_eq_true rfl) ?_
  intro E C Rt _
  have hc := R.1
  have k80 : ∀ (m k : Nat) (s2 : mS) (h2 : zm_H), zM K ad s2 h2 → mQ (2812 + f k) s s2 → k ≤ s.fi 7 → s.fi 7 - k < m → zm_Go E 0 0 80 [(0, .ref (ad 0)), (1, .int (nI k))] [] h2 := by
    intro m
    induction m with
    | zero => intro k s2 h2 _ _ _ g; omega
    | succ m ih =>
      intro k s2 h2 X2 Q2 hk hm
      have e7 := Q2.1 7 (by decide) (by decide)
      have R2 := Q2.row R
      have hq15 := Q2.2.2.1
      have hfk := R.2.2.1 k
      refine B_X9_writeFront_80 C Rt (Nat.le_refl 0) (Nat.le_refl 0) (X2.gI 7 rfl ?_)
      rw [e7]
      refine ⟨fun _ => ⟨rfl, s2, X2, Q2.mono (by omega)⟩, fun g => ?_⟩
      have hkc : k < s.fi 7 := by
        rcases Nat.lt_or_ge k (s.fi 7) with z | z
        · exact z
        · exact absurd (nI_le z (by omega)) g
      have hg := R.2.2.2 k hkc
      have hf1 := R.2.2.1 (k + 1)
      refine X2.gR 1 rfl (X2.ld 1 k (by decide) (show k < 1001 by omega) rfl (m_inCommon X2 R2 (by omega) fun c hc2 => ?_))
      rw [R2.2.1, nI_add]
      suffices k101 : ∀ (m4 i : Nat) (s4 : mS) (h4 : zm_H), zM K ad s4 h4 → mO i s2 s4 → f k + c + i ≤ f (k + 1) → f (k + 1) - (f k + c + i) < m4 → zm_Go E 0 0 101 [(0, .ref (ad 0)), (1, .int (nI k)), (2, .int (nI (f k + c + i)))] [] h4 from k101 20001 0 s2 h2 X2 (mO.rf 0 s2) (by omega) (by omega)
      intro m4
      induction m4 with
      | zero => intro i s4 h4 _ _ _ g; omega
      | succ m4 ih4 =>
        intro i s4 h4 X4 O4 hi hm4
        have R4 := O4.row R2
        have h5 := O4.hi
        refine B_X9_writeFront_101 C Rt (Nat.le_refl 0) (Nat.le_refl 0) (X4.gR 1 rfl (X4.ld 1 (k + 1) (by decide) (show k + 1 < 1001 by omega) (nI_add _ _) ?_))
        rw [R4.2.1]
        refine ⟨fun _ => ?_, fun g4 => ?_⟩
        · rw [nI_add]
          exact ih (k + 1) s4 h4 X4 ((Q2.trans O4.q).mono (by omega)) (by omega) (by omega)
        · have hi2 : f k + c + i < f (k + 1) := by
            rcases Nat.lt_or_ge (f k + c + i) (f (k + 1)) with z | z
            · exact z
            · exact absurd (nI_le z (by omega)) g4
          refine X4.gR 4 rfl (X4.ld 4 (f k + c + i) (by decide) (show f k + c + i < 20000 by omega) rfl (m_put X4 (by omega) fun s6 h6 X6 O6 => ?_))
          rw [nI_add]
          exact ih4 (i + 1) s6 h6 X6 (O4.trans O6) (by omega) (by omega)
  have k42 : ∀ (m k : Nat) (s2 : mS) (h2 : zm_H), zM K ad s2 h2 → mQ 1406 s s2 → s2.fi 19 = s.fi 7 → mL s2 k → k ≤ s.fi 7 → s.fi 7 - k < m → zm_Go E 0 0 42 [(0, .ref (ad 0)), (1, .int (nI k))] [] h2 := by
    intro m
    induction m with
    | zero => intro k s2 h2 _ _ _ _ _ g; omega
    | succ m ih =>
      intro k s2 h2 X2 Q2 e19 L2 hk hm
      have e7 := Q2.1 7 (by decide) (by decide)
      have R2 := Q2.row R
      have hq15 := Q2.2.2.1
      refine B_X9_writeFront_42 C Rt (Nat.le_refl 0) (Nat.le_refl 0) (X2.gI 7 rfl ?_)
      rw [e7]
      refine ⟨fun g => ?_, fun g => ?_⟩
      · have hkc : s.fi 7 ≤ k := (nI_leI (by omega) (by omega)).mp g
        refine ⟨X2.rc, m_cv (r_writeCode X2 (B := 9) (T := 86) rfl (by omega) (mW_9 (by rw [e19]; exact fun j hj => L2 j (by omega))) (by omega)) fun s3 h3 X3 O3 => ?_⟩
        exact k80 1001 0 s3 h3 X3 ((Q2.trans O3.q).mono (by omega)) (by omega) (by omega)
      · have hkc : k < s.fi 7 := by
          rcases Nat.lt_or_ge k (s.fi 7) with z | z
          · exact z
          · exact absurd (nI_le z (by omega)) g
        have hg := R.2.2.2 k hkc
        have hf := R.2.2.1 (k + 1)
        refine X2.gR 18 rfl (m_lengthOf X2 R2 (by omega) rfl (m_inCommon X2 R2 (by omega) fun c hc2 => X2.sL k (by omega) rfl fun h3 X3 => ?_))
        rw [znsub hc2, nI_l (by omega)] at X3
        rw [nI_add]
        exact ih (k + 1) _ h3 X3 (Q2.trans mQ.sl) e19 (L2.up (by omega)) (by omega) (by omega)
  refine B_X9_writeFront_0 C Rt (X.gI 7 rfl (X.pf 19 (s.fi 7) rfl (by decide) rfl fun h1 X1 => ?_))
  suffices k10 : ∀ (m k : Nat) (s2 : mS) (h2 : zm_H), zM K ad s2 h2 → mQ 0 s s2 → s2.fi 19 = s.fi 7 → mL s2 k → k ≤ s.fi 7 → s.fi 7 - k < m → zm_Go E 0 0 10 [(0, .ref (ad 0)), (1, .int (nI k))] [] h2 from k10 1001 0 _ h1 X1 (mQ.p19 (by omega)) rfl (fun k z => absurd z (by omega)) (by omega) (by omega)
  intro m
  induction m with
  | zero => intro k s2 h2 _ _ _ _ _ g; omega
  | succ m ih =>
    intro k s2 h2 X2 Q2 e19 L2 hk hm
    have e7 := Q2.1 7 (by decide) (by decide)
    have R2 := Q2.row R
    have hq15 := Q2.2.2.1
    refine B_X9_writeFront_10 C Rt (Nat.le_refl 0) (Nat.le_refl 0) (X2.gI 7 rfl ?_)
    rw [e7]
    refine ⟨fun g => ?_, fun g => ?_⟩
    · have hkc : s.fi 7 ≤ k := (nI_leI (by omega) (by omega)).mp g
      refine ⟨X2.rc, m_cv (r_writeCode X2 (B := 9) (T := 86) rfl (by omega) (mW_9 (by rw [e19]; exact fun j hj => L2 j (by omega))) (by omega)) fun s3 h3 X3 O3 => ?_⟩
      exact k42 1001 0 s3 h3 X3 ((Q2.trans O3.q).mono (by omega)) ((O3.fi 19 (by decide)).trans e19) (fun j z => absurd z (by omega)) (by omega) (by omega)
    · have hkc : k < s.fi 7 := by
        rcases Nat.lt_or_ge k (s.fi 7) with z | z
        · exact z
        · exact absurd (nI_le z (by omega)) g
      have hg := R.2.2.2 k hkc
      have hf := R.2.2.1 (k + 1)
      refine X2.gR 18 rfl (m_inCommon X2 R2 (by omega) fun c hc2 => X2.sL k (by omega) rfl fun h3 X3 => ?_)
      rw [nI_l (by omega)] at X3
      rw [nI_add]
      exact ih (k + 1) _ h3 X3 (Q2.trans mQ.sl) e19 (L2.up (by omega)) (by omega) (by omega)
end ZMZ
