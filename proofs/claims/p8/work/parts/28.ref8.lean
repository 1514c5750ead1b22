theorem zw10 : ∀ d, d < 1001 → (nI d - nI 1) >>> (nI 10 &&& 31) ≤ 0 := by decide +kernel
/-- what holds of the reference between calls; T: the tape's size -/
def mI (T : Nat) (s : mS) : Prop := s.fi 13 = T ∧ T ≤ 24000 ∧ s.fi 14 ≤ 24000 ∧ s.fi 15 ≤ 24000 ∧ s.fi 19 ≤ 2000 ∧ s.fi 17 ≤ 7 ∧ mB (s.ai 10) ∧ mB (s.ai 11) ∧ mB (s.ai 12) ∧ (∃ f, mRw s f) ∧ ∃ g : Nat → Nat, (∀ k, s.ai 2 k = nI (g k)) ∧ ∀ k, g k ≤ 20000
theorem mI.wr {T n : Nat} {s s' : mS} (I : mI T s) (Q : mQ n s s') (h0 : s.fi 15 = 0) (hn : n ≤ 24000) : mI T s' := by
  obtain ⟨i1, i2, i3, i4, i5, i6, i7, i8, i9, ⟨f, i10⟩, g, i11⟩ := I
  have q15 := Q.2.2.1
  refine ⟨(Q.1 13 (by decide) (by decide)).trans i1, i2, by rw [Q.1 14 (by decide) (by decide)]; exact i3, by omega, Q.2.2.2.1 i5, by rw [Q.1 17 (by decide) (by decide)]; exact i6, by rw [Q.2.1 10 (by decide) (by decide)]; exact i7, by rw [Q.2.1 11 (by decide) (by decide)]; exact i8, Q.2.2.2.2 i9, ⟨f, Q.row i10⟩, g, by rw [Q.2.1 2 (by decide) (by decide)]; exact i11⟩
theorem mI.p0 {T v : Nat} {s : mS} (I : mI T s) : mI T (s.pf 0 v) := I
theorem mI.p15 {T v : Nat} {s : mS} (I : mI T s) (hv : v ≤ 24000) : mI T (s.pf 15 v) := ⟨I.1, I.2.1, I.2.2.1, hv, I.2.2.2.2⟩
section ZNA
variable {K : zm_K} {ad : Nat → Nat} {s : mS} {h : zm_H} {f : Nat → Nat}
theorem r_writeDictionary (X : zM K ad s h) (R : mRw s f) (ho : s.fi 15 = 0) : zm_Ct K M_X9_writeDictionary [.ref (ad 0)] h (poQ K ad s 23522) := by
  refine zm_meet (by decide) (Nat.le_of_ble_eq_true rfl) ?_
  intro E C Rt _
  have hc := R.1
  have k96 : ∀ (d : Nat) (s2 : mS) (h2 : zm_H), d ≤ 1000 → zM K ad s2 h2 → mQ 22010 s s2 → ∀ (m w : Nat), w ≤ 10 → 10 - w < m → zm_Go E 0 0 96 [(0, .ref (ad 0)), (1, .int (nI d)), (2, .int (nI w))] [] h2 := by
    intro d s2 h2 hd X2 Q2 m
    have e7 := Q2.1 7 (by decide) (by decide)
    have hq15 := Q2.2.2.1
    induction m with
    | zero => intro w _ g; omega
    | succ m ih =>
      intro w hw hm
      refine B_X9_writeDictionary_96 C Rt (Nat.le_refl 0) (Nat.le_refl 0) ⟨fun _ => ?_, fun g => ?_⟩
      · refine m_put X2 (by omega) fun s3 h3 X3 O3 => X3.gR 20 rfl (X3.gI 7 rfl ?_)
        have h15 := O3.hi
        have e73 := O3.fi 7 (by decide)
        refine ⟨X3.rc, m_cv (r_writeRuns X3 (by omega) hw (by omega)) fun s4 h4 X4 O4 => ?_⟩
        exact ⟨rfl, s4, X4, ((Q2.trans O3.q).trans O4.q).mono (by omega)⟩
      · have hw2 : w < 10 := by
          rcases Nat.lt_or_ge w 10 with z | z
          · exact z
          · rw [show w = 10 by omega] at g
            exact absurd (zw10 d (by omega)) g
        rw [nI_add]
        exact ih (w + 1) (by omega) (by omega)
  have k66 : ∀ (d : Nat), d ≤ 1000 → ∀ (m k : Nat) (s2 : mS) (h2 : zm_H), zM K ad s2 h2 → mQ (10 + 2 * k + f k) s s2 → k ≤ s.fi 7 → s.fi 7 - k < m → zm_Go E 0 0 66 [(0, .ref (ad 0)), (1, .int (nI d)), (2, .int (nI k))] [] h2 := by
    intro d hd m
    induction m with
    | zero => intro k s2 h2 _ _ _ g; omega
    | succ m ih =>
      intro k s2 h2 X2 Q2 hk hm
      have e7 := Q2.1 7 (by decide) (by decide)
      have R2 := Q2.row R
      have hq15 := Q2.2.2.1
      have hfk := R.2.2.1 k
      refine B_X9_writeDictionary_66 C Rt (Nat.le_refl 0) (Nat.le_refl 0) (X2.gI 7 rfl ?_)
      rw [e7]
      refine ⟨fun _ => k96 d s2 h2 hd X2 (Q2.mono (by omega)) 11 0 (by omega) (by omega), fun g => ?_⟩
      have hkc : k < s.fi 7 := by
        rcases Nat.lt_or_ge k (s.fi 7) with z | z
        · exact z
        · exact absurd (nI_le z (by omega)) g
      have hg := R.2.2.2 k hkc
      have hf1 := R.2.2.1 (k + 1)
      refine m_firstLike X2 R2 (by omega) fun j hj => ⟨fun _ => ?_, fun _ => ⟨X2.rc, m_cv (r_putText X2 R2 (by omega) (by omega)) fun s3 h3 X3 O3 => ?_⟩⟩
      · rw [nI_add]
        exact ih (k + 1) s2 h2 X2 (Q2.mono (by omega)) (by omega) (by omega)
      · rw [nI_add]
        exact ih (k + 1) s3 h3 X3 ((Q2.trans O3.q).mono (by omega)) (by omega) (by omega)
  refine B_X9_writeDictionary_0 C Rt ?_
  suffices k4 : ∀ (m k d : Nat) (s2 : mS) (h2 : zm_H), zM K ad s2 h2 → mQ 0 s s2 → d ≤ k → k ≤ s.fi 7 → s.fi 7 - k < m → zm_Go E 0 0 4 [(0, .ref (ad 0)), (1, .int (nI d)), (2, .int (nI k))] [] h2 from k4 1001 0 0 s h X (mQ.rf 0 s) (by omega) (by omega) (by omega)
  intro m
  induction m with
  | zero => intro k d s2 h2 _ _ _ _ g; omega
  | succ m ih =>
    intro k d s2 h2 X2 Q2 hd hk hm
    have e7 := Q2.1 7 (by decide) (by decide)
    have R2 := Q2.row R
    have hq15 := Q2.2.2.1
    refine B_X9_writeDictionary_4 C Rt (Nat.le_refl 0) (Nat.le_refl 0) (X2.gI 7 rfl ?_)
    rw [e7]
    refine ⟨fun _ => ?_, fun g => ?_⟩
    · refine m_putVarint X2 (by omega) fun s3 h3 X3 O3 => ?_
      exact k66 d (by omega) 1001 0 s3 h3 X3 ((Q2.trans O3.q).mono (by omega)) (by omega) (by omega)
    · have hkc : k < s.fi 7 := by
        rcases Nat.lt_or_ge k (s.fi 7) with z | z
        · exact z
        · exact absurd (nI_le z (by omega)) g
      have two : ∀ (s3 : mS) (h3 : zm_H), zM K ad s3 h3 → mQ 0 s s3 → ∀ (P : Prop), (¬ P → zm_Go E 0 0 4 [(0, .ref (ad 0)), (1, .int (nI d + nI 0)), (2, .int (nI k + nI 1))] [] h3) ∧ (P → zm_Go E 0 0 4 [(0, .ref (ad 0)), (1, .int (nI d + nI 1)), (2, .int (nI k + nI 1))] [] h3) := by
        intro s3 h3 X3 Q3 P
        rw [nI_add, nI_add, nI_add]
        exact ⟨fun _ => ih (k + 1) (d + 0) s3 h3 X3 Q3 (by omega) (by omega) (by omega), fun _ => ih (k + 1) (d + 1) s3 h3 X3 Q3 (by omega) (by omega) (by omega)⟩
      refine m_firstLike X2 R2 (by omega) fun j hj => X2.gR 20 rfl ⟨fun _ => ?_, fun _ => ?_⟩
      · exact X2.gR 20 rfl (X2.ld 20 j (by decide) (show j < 1008 by omega) rfl (X2.st 20 k (by decide) (show k < 1008 by omega) rfl fun h3 X3 => two _ h3 X3 (Q2.trans mQ.sa) _))
      · exact X2.st 20 k (by decide) (show k < 1008 by omega) rfl fun h3 X3 => two _ h3 X3 (Q2.trans mQ.sa) _
end ZNA
