def poE (h : zm_H) : zm_Po := fun r h' => h' = h ∧ ∃ y : Int64, r = some (.long y)
/-- a difference -/
def mD (s : mS) (k : Nat) : Int64 := s.lg (k + 1) - s.lg k
/-- in every block the differences, less the least, are below 2 ^ B -/
def mW (B : Nat) (s : mS) : Prop := B ≤ 64 ∧ ∀ (a b : Nat) (l : Int64), b < s.fi 19 → (∃ k, a ≤ k ∧ k < b ∧ l = mD s k) → (∀ k, a ≤ k → k < b → l ≤ mD s k) → ∀ k, a ≤ k → k < b → ∃ x, x < 2 ^ B ∧ mD s k - l = lN x
theorem mW_64 (s : mS) : mW 64 s := ⟨Nat.le_refl _, fun _ _ _ _ _ _ _ _ _ => wb_of _⟩
theorem mO.df {n : Nat} {s s' : mS} (O : mO n s s') : mD s' = mD s := by
  funext k
  unfold mD
  rw [O.lg]
section ZMU
variable {K : zm_K} {ad : Nat → Nat} {s : mS} {h : zm_H}
theorem r_zigzag {x : Int64} : zm_Ct K M_X9_zigzag [.long x] h (poE h) := by
  refine zm_meet (by decide) (Nat.le_of_ble_eq_true rfl) ?_
  intro E C Rt _
  exact B_X9_zigzag_0 C Rt (Nat.le_refl 0) (Nat.le_refl 0) ⟨fun _ => ⟨rfl, _, rfl⟩, fun _ => ⟨rfl, _, rfl⟩⟩
theorem r_unzigzag {x : Int64} : zm_Ct K M_X9_unzigzag [.long x] h (poE h) := by
  refine zm_meet (by decide) (Nat.le_of_ble_eq_true rfl) ?_
  intro E C Rt _
  exact B_X9_unzigzag_0 C Rt (Nat.le_refl 0) (Nat.le_refl 0) ⟨fun _ => ⟨rfl, _, rfl⟩, fun _ => ⟨rfl, _, rfl⟩⟩
theorem m_pure {M : zm_M} {as : List Value} {F : Int64 → zm_H → Prop} (hM : zm_Ct K M as h (poE h)) (hF : ∀ y, F y h) : zm_cl K M as h F := ⟨_, hM, fun r h' q => by
  obtain ⟨rfl, y, rfl⟩ := q
  exact ⟨y, rfl, hF y⟩⟩
theorem r_difference (X : zM K ad s h) {m : Nat} (hm : m + 1 < 2000) : zm_Ct K M_X9_difference [.ref (ad 0), .int (nI m)] h (fun r h' => h' = h ∧ r = some (.long (mD s m))) := by
  refine zm_meet (by decide) (Nat.le_of_ble_eq_true rfl) ?_
  intro E C Rt _
  exact B_X9_difference_0 C Rt (Nat.le_refl 0) (Nat.le_refl 0) (X.gR 18 rfl (X.lL (m + 1) hm (nI_add _ _) (X.gR 18 rfl (X.lL m (by omega) rfl ⟨rfl, rfl⟩))))
theorem m_difference (X : zM K ad s h) {m : Nat} (hm : m + 1 < 2000) {i : Int32} (hi : i = nI m) {F : Int64 → zm_H → Prop} (hF : F (mD s m) h) : zm_rc h (ad 0) 9 ∧ zm_cl K M_X9_difference [.ref (ad 0), .int i] h F := by
  subst hi
  refine ⟨X.rc, _, r_difference X hm, fun r h' q => ?_⟩
  obtain ⟨rfl, rfl⟩ := q
  exact ⟨_, rfl, hF⟩
theorem r_widthOf (X : zM K ad s h) {p last B : Nat} {l : Int64} (hl : last < 2000) (hp : p < 2000) (hB : B ≤ 64) (hx : ∀ k, p ≤ k → k < last → ∃ x, x < 2 ^ B ∧ mD s k - l = lN x) : zm_Ct K M_X9_widthOf [.ref (ad 0), .int (nI p), .int (nI last), .long l] h (fun r h' => h' = h ∧ ∃ w, w ≤ B ∧ r = some (.int (nI w))) := by
  refine zm_meet (by decide) (Nat.le_of_ble_eq_true rfl) ?_
  intro E C Rt _
  refine B_X9_widthOf_0 C Rt ?_
  suffices key : ∀ (m k w : Nat), w ≤ B → p ≤ k → k ≤ p + 16 → p + 16 - k < m → zm_Go E 0 0 6 [(0, .ref (ad 0)), (1, .int (nI p)), (2, .int (nI last)), (3, .long l), (5, .int (nI w)), (6, .int (nI k))] [] h from key 17 p 0 (by omega) (by omega) (by omega) (by omega)
  intro m
  induction m with
  | zero => intro k w _ _ _ g; omega
  | succ m ih =>
    intro k w hw hk hk2 hm
    refine B_X9_widthOf_6 C Rt (Nat.le_refl 0) (Nat.le_refl 0) ⟨fun _ => ⟨rfl, w, hw, rfl⟩, fun g1 => ⟨fun _ => ⟨rfl, w, hw, rfl⟩, fun g2 => ?_⟩⟩
    have hk3 : k < p + 16 := by
      rcases Nat.lt_or_ge k (p + 16) with q | q
      · exact q
      · exact absurd (by rw [nI_add]; exact nI_le q (by omega)) g1
    have hk4 : k < last := by
      rcases Nat.lt_or_ge k last with q | q
      · exact q
      · exact absurd (nI_le q (by omega)) g2
    obtain ⟨x, hxB, hxe⟩ := hx k hk hk4
    have h64 : x < 2 ^ 64 := Nat.lt_of_lt_of_le hxB (Nat.pow_le_pow_right (by decide) hB)
    suffices key2 : ∀ (m2 w : Nat), w ≤ B → B - w < m2 → zm_Go E 0 0 21 [(0, .ref (ad 0)), (1, .int (nI p)), (2, .int (nI last)), (3, .long l), (5, .int (nI w)), (6, .int (nI k))] [] h from key2 (B + 1) w hw (by omega)
    intro m2
    induction m2 with
    | zero => intro w _ g; omega
    | succ m2 ih2 =>
      intro w hw hm2
      have nx : zm_Go E 0 0 6 [(0, .ref (ad 0)), (1, .int (nI p)), (2, .int (nI last)), (3, .long l), (5, .int (nI w)), (6, .int (nI k + nI 1))] [] h := by
        rw [nI_add]
        exact ih (k + 1) w hw (by omega) (by omega) (by omega)
      refine B_X9_widthOf_21 C Rt (Nat.le_refl 0) (Nat.le_refl 0) ⟨fun _ => nx, fun g3 => ?_⟩
      have hw64 : w < 64 := by
        rcases Nat.lt_or_ge w 64 with q | q
        · exact q
        · exact absurd (nI_le q (by omega)) g3
      refine m_difference X (by omega) rfl ⟨fun _ => nx, fun g4 => ?_⟩
      rw [hxe, wb_shr h64 hw64] at g4
      have hwB : w < B := by
        rcases Nat.lt_or_ge w B with q | q
        · exact q
        · refine absurd ((lg_cmp_eq _ _).mpr ?_) g4
          rw [Nat.div_eq_of_lt (Nat.lt_of_lt_of_le hxB (Nat.pow_le_pow_right (by decide) q))]
      rw [nI_add]
      exact ih2 (w + 1) hwB (by omega)
theorem r_writePart (X : zM K ad s h) {p last w : Nat} {l : Int64} (hl : last < 2000) (hp : p < 2000) (hw : w ≤ 64) (ho : s.fi 15 + 2 * w ≤ 60000) : zm_Ct K M_X9_writePart [.ref (ad 0), .int (nI p), .int (nI last), .long l, .int (nI w)] h (poO K ad s (2 * w)) := by
  refine zm_meet (by decide) (Nat.le_of_ble_eq_true rfl) ?_
  intro E C Rt _
  refine B_X9_writePart_0 C Rt ?_
  suffices key : ∀ (m j : Nat) (s1 : mS) (h1 : zm_H), zM K ad s1 h1 → mO j s s1 → j ≤ 2 * w → 2 * w - j < m → zm_Go E 0 0 3 [(0, .ref (ad 0)), (1, .int (nI p)), (2, .int (nI last)), (3, .long l), (5, .int (nI w)), (6, .int (nI (8 * j)))] [] h1 from key (2 * w + 1) 0 s h X (mO.rf 0 s) (by omega) (by omega)
  intro m
  induction m with
  | zero => intro j s1 h1 _ _ _ g; omega
  | succ m ih =>
    intro j s1 h1 X1 O1 hj hm
    have hi := O1.hi
    refine B_X9_writePart_3 C Rt (Nat.le_refl 0) (Nat.le_refl 0) ⟨fun _ => ⟨rfl, s1, X1, O1.mono hj⟩, fun g => ?_⟩
    have hj2 : j < 2 * w := by
      rcases Nat.lt_or_ge j (2 * w) with q | q
      · exact q
      · exact absurd (by rw [znmul]; exact nI_le (by omega) (by omega)) g
    suffices key2 : ∀ (m2 i : Nat) (y : Int32), i ≤ 8 → 8 - i < m2 → zm_Go E 0 0 19 [(0, .ref (ad 0)), (1, .int (nI p)), (2, .int (nI last)), (3, .long l), (5, .int (nI w)), (6, .int (nI (8 * j))), (7, .int y), (8, .int (nI i))] [] h1 from key2 9 0 _ (by omega) (by omega)
    intro m2
    induction m2 with
    | zero => intro i y _ g; omega
    | succ m2 ih2 =>
      intro i y hi8 hm2
      refine B_X9_writePart_19 C Rt (Nat.le_refl 0) (Nat.le_refl 0) ⟨fun _ => ?_, fun g2 => ⟨nI_ne0 (by omega) (by omega), ?_⟩⟩
      · refine m_put X1 (by omega) fun s2 h2 X2 O2 => ?_
        rw [nI_add]
        exact ih (j + 1) s2 h2 X2 (O1.trans O2) (by omega) (by omega)
      · have hi9 : i < 8 := by
          rcases Nat.lt_or_ge i 8 with q | q
          · exact q
          · exact absurd (nI_le q (by omega)) g2
        have hd : (8 * j + i) / w ≤ 8 * j + i := Nat.div_le_self _ _
        have e1 : nI p + (nI (8 * j) + nI i) / nI w = nI (p + (8 * j + i) / w) := by rw [nI_add, zndiv (by omega) (by omega), nI_add]
        refine ⟨fun _ => ?_, fun g3 => ?_⟩
        · rw [nI_add]
          exact ih2 (i + 1) y (by omega) (by omega)
        · rw [e1] at g3
          have hk : p + (8 * j + i) / w < last := by
            rcases Nat.lt_or_ge (p + (8 * j + i) / w) last with q | q
            · exact q
            · exact absurd (nI_le q (by generalize (8 * j + i) / w = c at *; omega)) g3
          refine m_difference X1 (m := p + (8 * j + i) / w) (by omega) e1 ⟨nI_ne0 (by omega) (by omega), ?_⟩
          rw [nI_add (a := i)]
          exact ih2 (i + 1) _ (by omega) (by omega)
end ZMU
