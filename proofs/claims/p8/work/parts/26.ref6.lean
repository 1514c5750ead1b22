section ZMY
variable {K : zm_K} {ad : Nat → Nat} {s : mS} {h : zm_H} {f : Nat → Nat}
theorem r_same (X : zM K ad s h) (R : mRw s f) {j k : Nat} (hj : j < s.fi 7) (hk : k < s.fi 7) : zm_Ct K M_X9_same [.ref (ad 0), .int (nI j), .int (nI k)] h (fun r h' => h' = h ∧ ∃ b, b ≤ 1 ∧ (j = k → b = 1) ∧ r = some (.int (nI b))) := by
  refine zm_meet (by decide) (Nat.le_of_ble_eq_true rfl) ?_
  intro E C Rt _
  have hc := R.1
  have hfj := R.2.2.1 (j + 1)
  have hfk := R.2.2.1 (k + 1)
  have hgj := (R.2.2.2 j hj).1
  have hgk := (R.2.2.2 k hk).1
  have k22 : ∀ (m b i : Nat), b ≤ 1 → (b = 1 → f (j + 1) - f j = f (k + 1) - f k) → (j = k → b = 1) → i ≤ 20000 → 20000 - i < m → zm_Go E 0 0 22 [(0, .ref (ad 0)), (1, .int (nI j)), (2, .int (nI k)), (3, .int (nI b)), (4, .int (nI i))] [] h := by
    intro m
    induction m with
    | zero => intro b i _ _ _ _ g; omega
    | succ m ih =>
      intro b i hb hb1 hjk hi hm
      have fin : narrow .boolean (.int (nI b)) = .int (nI b) ∧ (h = h ∧ ∃ b', b' ≤ 1 ∧ (j = k → b' = 1) ∧ some (Value.int (nI b)) = some (.int (nI b'))) := by
        refine ⟨?_, rfl, b, hb, hjk, rfl⟩
        rcases Nat.le_one_iff_eq_zero_or_eq_one.mp hb with z | z
        · subst z
          rfl
        · subst z
          rfl
      refine B_X9_same_22 C Rt (Nat.le_refl 0) (Nat.le_refl 0) ⟨fun _ => fin, fun g => m_lengthOf X R hk rfl ⟨fun _ => fin, fun g2 => ?_⟩⟩
      have b1 : b = 1 := by
        rcases Nat.le_one_iff_eq_zero_or_eq_one.mp hb with z | z
        · subst z
          exact absurd rfl g
        · exact z
      have he := hb1 b1
      have hil : i < f (k + 1) - f k := by
        rcases Nat.lt_or_ge i (f (k + 1) - f k) with z | z
        · exact z
        · exact absurd (nI_le z (by omega)) g2
      refine X.gR 4 rfl (X.gR 1 rfl (X.ld 1 j (by decide) (show j < 1001 by omega) rfl (X.ld 4 (f j + i) (by decide) (show f j + i < 20000 by omega) (by rw [R.2.1, nI_add]) (X.gR 4 rfl (X.gR 1 rfl (X.ld 1 k (by decide) (show k < 1001 by omega) rfl (X.ld 4 (f k + i) (by decide) (show f k + i < 20000 by omega) (by rw [R.2.1, nI_add]) ⟨fun g3 => ?_, fun _ => ?_⟩)))))))
      · rw [nI_add]
        refine ih 0 (i + 1) (by omega) (by omega) (fun z => ?_) (by omega) (by omega)
        subst z
        exact absurd rfl g3
      · rw [nI_add]
        exact ih 1 (i + 1) (by omega) (fun _ => he) (fun _ => rfl) (by omega) (by omega)
  refine B_X9_same_0 C Rt (Nat.le_refl 0) (Nat.le_refl 0) (m_lengthOf X R hj rfl (m_lengthOf X R hk rfl ⟨fun g => ?_, fun g => ?_⟩))
  · refine k22 20001 0 0 (by omega) (by omega) (fun z => ?_) (by omega) (by omega)
    subst z
    exact absurd rfl g
  · exact k22 20001 1 0 (by omega) (fun _ => (nI_eq (by omega) (by omega)).mp g) (fun _ => rfl) (by omega) (by omega)
theorem r_firstLike (X : zM K ad s h) (R : mRw s f) {k : Nat} (hk : k < s.fi 7) : zm_Ct K M_X9_firstLike [.ref (ad 0), .int (nI k)] h (fun r h' => h' = h ∧ ∃ j, j ≤ k ∧ r = some (.int (nI j))) := by
  refine zm_meet (by decide) (Nat.le_of_ble_eq_true rfl) ?_
  intro E C Rt _
  refine B_X9_firstLike_0 C Rt ?_
  suffices key : ∀ (m j : Nat), j ≤ k → k - j < m → zm_Go E 0 0 2 [(0, .ref (ad 0)), (1, .int (nI k)), (2, .int (nI j))] [] h from key (k + 1) 0 (by omega) (by omega)
  intro m
  induction m with
  | zero => intro j _ g; omega
  | succ m ih =>
    intro j hj hm
    refine B_X9_firstLike_2 C Rt (Nat.le_refl 0) (Nat.le_refl 0) ⟨X.rc, _, r_same X R (by omega) hk, fun r h' q => ?_⟩
    obtain ⟨rfl, b, hb, hjk, rfl⟩ := q
    refine ⟨_, rfl, fun _ => ⟨rfl, j, hj, rfl⟩, fun g => ?_⟩
    have hne : j ≠ k := fun z => by
      rw [hjk z] at g
      exact absurd g (by decide)
    rw [nI_add]
    exact ih (j + 1) (by omega) (by omega)
theorem m_firstLike (X : zM K ad s h) (R : mRw s f) {k : Nat} (hk : k < s.fi 7) {F : Int32 → zm_H → Prop} (hF : ∀ j, j ≤ k → F (nI j) h) : zm_rc h (ad 0) 9 ∧ zm_ci K M_X9_firstLike [.ref (ad 0), .int (nI k)] h F := by
  refine ⟨X.rc, _, r_firstLike X R hk, fun r h' q => ?_⟩
  obtain ⟨rfl, j, hj, rfl⟩ := q
  exact ⟨_, rfl, hF j hj⟩
theorem r_putText (X : zM K ad s h) (R : mRw s f) {k : Nat} (hk : k < s.fi 7) (ho : s.fi 15 + (2 + (f (k + 1) - f k)) ≤ 60000) : zm_Ct K M_X9_putText [.ref (ad 0), .int (nI k)] h (poO K ad s (2 + (f (k + 1) - f k))) := by
  refine zm_meet (by decide) (Nat.le_of_ble_eq_true rfl) ?_
  intro E C Rt _
  have hc := R.1
  have hf := R.2.2.1 (k + 1)
  have hg := R.2.2.2 k hk
  refine B_X9_putText_0 C Rt (Nat.le_refl 0) (Nat.le_refl 0) (m_lengthOf X R hk rfl (m_varint2 X (x := f (k + 1) - f k) (nI_l (by omega)) (by omega) (by omega) fun s1 h1 X1 O1 => X1.gR 1 rfl (X1.ld 1 k (by decide) (show k < 1001 by omega) rfl ?_)))
  have R1 := O1.row R
  rw [R1.2.1]
  suffices key : ∀ (m j : Nat) (s2 : mS) (h2 : zm_H), zM K ad s2 h2 → mO j s1 s2 → f k + j ≤ f (k + 1) → f (k + 1) - (f k + j) < m → zm_Go E 0 0 17 [(0, .ref (ad 0)), (1, .int (nI k)), (2, .int (nI (f k + j)))] [] h2 from key (f (k + 1) + 1) 0 s1 h1 X1 (mO.rf 0 s1) (by omega) (by omega)
  intro m
  induction m with
  | zero => intro j s2 h2 _ _ _ g; omega
  | succ m ih =>
    intro j s2 h2 X2 O2 hj hm
    have R2 := O2.row R1
    have hi := (O1.trans O2).hi
    refine B_X9_putText_17 C Rt (Nat.le_refl 0) (Nat.le_refl 0) (X2.gR 1 rfl (X2.ld 1 (k + 1) (by decide) (show k + 1 < 1001 by omega) (nI_add _ _) ?_))
    rw [R2.2.1]
    refine ⟨fun _ => ⟨rfl, s2, X2, (O1.trans O2).mono (by omega)⟩, fun g => ?_⟩
    have hj2 : f k + j < f (k + 1) := by
      rcases Nat.lt_or_ge (f k + j) (f (k + 1)) with z | z
      · exact z
      · exact absurd (nI_le z (by omega)) g
    refine X2.gR 4 rfl (X2.ld 4 (f k + j) (by decide) (show f k + j < 20000 by omega) rfl (m_put X2 (by omega) fun s3 h3 X3 O3 => ?_))
    rw [nI_add]
    exact ih (j + 1) s3 h3 X3 (O2.trans O3) (by omega) (by omega)
theorem r_inCommon (X : zM K ad s h) (R : mRw s f) {k : Nat} (hk : k < s.fi 7) : zm_Ct K M_X9_inCommon [.ref (ad 0), .int (nI k)] h (fun r h' => h' = h ∧ ∃ c, c ≤ f (k + 1) - f k ∧ r = some (.int (nI c))) := by
  refine zm_meet (by decide) (Nat.le_of_ble_eq_true rfl) ?_
  intro E C Rt _
  have hc := R.1
  have hf := R.2.2.1 (k + 1)
  have hg := R.2.2.2 k hk
  refine B_X9_inCommon_0 C Rt ?_
  suffices key : ∀ (m i : Nat), i ≤ f (k + 1) - f k → f (k + 1) - f k - i < m → zm_Go E 0 0 2 [(0, .ref (ad 0)), (1, .int (nI k)), (2, .int (nI i))] [] h from key (f (k + 1) + 1) 0 (by omega) (by omega)
  intro m
  induction m with
  | zero => intro i _ g; omega
  | succ m ih =>
    intro i hi hm
    refine B_X9_inCommon_2 C Rt (Nat.le_refl 0) (Nat.le_refl 0) ⟨fun _ => ⟨rfl, i, hi, rfl⟩, fun g => m_lengthOf X R hk rfl ⟨fun _ => ⟨rfl, i, hi, rfl⟩, fun g2 => ?_⟩⟩
    have hk0 : 1 ≤ k := by
      rcases Nat.eq_zero_or_pos k with z | z
      · subst z
        exact absurd (by decide) g
      · exact z
    have e1 : nI k - nI 1 = nI (k - 1) := znsub hk0
    have hp := R.2.2.2 (k - 1) (by omega)
    have hp2 := R.2.2.1 (k - 1 + 1)
    have hi2 : i < f (k + 1) - f k := by
      rcases Nat.lt_or_ge i (f (k + 1) - f k) with z | z
      · exact z
      · exact absurd (nI_le z (by omega)) g2
    refine m_lengthOf X R (k := k - 1) (by omega) e1 ⟨fun _ => ⟨rfl, i, hi, rfl⟩, fun g3 => ?_⟩
    have hi3 : i < f (k - 1 + 1) - f (k - 1) := by
      rcases Nat.lt_or_ge i (f (k - 1 + 1) - f (k - 1)) with z | z
      · exact z
      · exact absurd (nI_le z (by omega)) g3
    refine X.gR 4 rfl (X.gR 1 rfl (X.ld 1 k (by decide) (show k < 1001 by omega) rfl (X.ld 4 (f k + i) (by decide) (show f k + i < 20000 by omega) (by rw [R.2.1, nI_add]) (X.gR 4 rfl (X.gR 1 rfl (X.ld 1 (k - 1) (by decide) (show k - 1 < 1001 by omega) e1 (X.ld 4 (f (k - 1) + i) (by decide) (show f (k - 1) + i < 20000 by omega) (by rw [R.2.1, nI_add]) ⟨fun _ => ⟨rfl, i, hi, rfl⟩, fun _ => ?_⟩)))))))
    rw [nI_add]
    exact ih (i + 1) (by omega) (by omega)
theorem m_inCommon (X : zM K ad s h) (R : mRw s f) {k : Nat} (hk : k < s.fi 7) {F : Int32 → zm_H → Prop} (hF : ∀ c, c ≤ f (k + 1) - f k → F (nI c) h) : zm_rc h (ad 0) 9 ∧ zm_ci K M_X9_inCommon [.ref (ad 0), .int (nI k)] h F := by
  refine ⟨X.rc, _, r_inCommon X R hk, fun r h' q => ?_⟩
  obtain ⟨rfl, c, hc, rfl⟩ := q
  exact ⟨_, rfl, hF c hc⟩
end ZMY
