/-- the row: where its texts begin -/
def mRw (s : mS) (f : Nat → Nat) : Prop := s.fi 7 ≤ 1000 ∧ (∀ k, s.ai 1 k = nI (f k)) ∧ (∀ k, f k ≤ 20000) ∧ ∀ k, k < s.fi 7 → f k ≤ f (k + 1) ∧ f (k + 1) ≤ f k + 255
theorem mRw.of {s s' : mS} {f : Nat → Nat} (R : mRw s f) (h1 : s'.fi 7 = s.fi 7) (h2 : s'.ai 1 = s.ai 1) : mRw s' f := by
  unfold mRw
  rw [h1, h2]
  exact R
theorem mO.row {n : Nat} {s s' : mS} {f : Nat → Nat} (O : mO n s s') (R : mRw s f) : mRw s' f := R.of (O.fi 7 (by decide)) (O.ai 1 (by decide))
section ZMX
variable {K : zm_K} {ad : Nat → Nat} {s : mS} {h : zm_H} {f : Nat → Nat}
theorem r_alike (X : zM K ad s h) {k n : Nat} (hn : n ≤ 1000) (hk : k < n) : zm_Ct K M_X9_alike [.ref (ad 20), .int (nI k), .int (nI n)] h (fun r h' => h' = h ∧ ∃ c, 1 ≤ c ∧ k + c ≤ n ∧ r = some (.int (nI c))) := by
  refine zm_meet (by decide) (Nat.le_of_ble_eq_true rfl) ?_
  intro E C Rt _
  refine B_X9_alike_0 C Rt ?_
  suffices key : ∀ (m q : Nat), k ≤ q → q ≤ n → (q = k ∨ k + 1 ≤ q) → n - q < m → zm_Go E 0 0 2 [(0, .ref (ad 20)), (1, .int (nI k)), (2, .int (nI n)), (3, .int (nI q))] [] h from key (n + 1) k (by omega) (by omega) (Or.inl rfl) (by omega)
  intro m
  induction m with
  | zero => intro q _ _ _ g; omega
  | succ m ih =>
    intro q h1 h2 h3 hm
    refine B_X9_alike_2 C Rt (Nat.le_refl 0) (Nat.le_refl 0) ⟨fun g => ⟨rfl, q - k, ?_, by omega, by rw [znsub h1]⟩, fun g => ?_⟩
    · have := (nI_leI (by omega) (by omega)).mp g
      omega
    · have hq : q < n := by
        rcases Nat.lt_or_ge q n with z | z
        · exact z
        · exact absurd (nI_le z (by omega)) g
      refine X.ld 20 q (by decide) (show q < 1008 by omega) rfl (X.ld 20 k (by decide) (show k < 1008 by omega) rfl ⟨fun g2 => ⟨rfl, q - k, ?_, by omega, by rw [znsub h1]⟩, fun _ => ?_⟩)
      · rcases h3 with z | z
        · subst z
          exact absurd rfl g2
        · omega
      · rw [nI_add]
        exact ih (q + 1) (by omega) (by omega) (Or.inr (by omega)) (by omega)
theorem m_alike (X : zM K ad s h) {k n : Nat} (hn : n ≤ 1000) (hk : k < n) {i : Int32} (hi : i = nI k) {F : Int32 → zm_H → Prop} (hF : ∀ c, 1 ≤ c → k + c ≤ n → F (nI c) h) : zm_ci K M_X9_alike [.ref (ad 20), .int i, .int (nI n)] h F := by
  subst hi
  refine ⟨_, r_alike X hn hk, fun r h' q => ?_⟩
  obtain ⟨rfl, c, h1, h2, rfl⟩ := q
  exact ⟨_, rfl, hF c h1 h2⟩
theorem m_varint2 (X : zM K ad s h) {x : Nat} {y : Int64} (hy : y = lN x) (hx : x < 16384) (ho : s.fi 15 + 2 ≤ 60000) {F : zm_H → Prop} (hF : ∀ s' h', zM K ad s' h' → mO 2 s s' → F h') : zm_rc h (ad 0) 9 ∧ zm_cv K M_X9_putVarint [.ref (ad 0), .long y] h F := by
  subst hy
  exact ⟨X.rc, m_cv (r_putVarint (n := 1) X (by omega) hx ho) hF⟩
theorem r_writeRuns (X : zM K ad s h) {n w : Nat} (hn : n ≤ 1000) (hw : w ≤ 10) (ho : s.fi 15 + 1511 ≤ 60000) : zm_Ct K M_X9_writeRuns [.ref (ad 0), .ref (ad 20), .int (nI n), .int (nI w)] h (poO K ad s 1511) := by
  refine zm_meet (by decide) (Nat.le_of_ble_eq_true rfl) ?_
  intro E C Rt _
  refine B_X9_writeRuns_0 C Rt ?_
  suffices key : ∀ (m k b : Nat) (s1 : mS) (h1 : zm_H), zM K ad s1 h1 → mO b s s1 → 2 * b ≤ 3 * k → k < n + 8 → n + 8 - k < m → zm_Go E 0 0 3 [(0, .ref (ad 0)), (1, .ref (ad 20)), (2, .int (nI n)), (3, .int (nI w)), (4, .int (nI k))] [] h1 from key (n + 9) 0 0 s h X (mO.rf 0 s) (by omega) (by omega) (by omega)
  intro m
  induction m with
  | zero => intro k b s1 h1 _ _ _ _ g; omega
  | succ m ih =>
    intro k b s1 h1 X1 O1 hb hk hm
    have hi := O1.hi
    refine B_X9_writeRuns_3 C Rt (Nat.le_refl 0) (Nat.le_refl 0) ⟨fun _ => ⟨rfl, s1, X1, O1.mono (by omega)⟩, fun g => ?_⟩
    have hkn : k < n := by
      rcases Nat.lt_or_ge k n with z | z
      · exact z
      · exact absurd (nI_le z (by omega)) g
    refine m_alike X1 hn hkn rfl fun c hc1 hc2 => ⟨fun _ => ?_, fun g2 => ?_⟩
    · -- groups
      suffices k75 : ∀ (m2 t : Nat), 1 ≤ t → k + 8 * t < n + 8 → n + 8 - (k + 8 * t) < m2 → zm_Go E 0 0 75 [(0, .ref (ad 0)), (1, .ref (ad 20)), (2, .int (nI n)), (3, .int (nI w)), (4, .int (nI k)), (6, .int (nI t))] [] h1 from k75 (n + 9) 1 (by omega) (by omega) (by omega)
      intro m2
      induction m2 with
      | zero => intro t _ _ g; omega
      | succ m2 ih2 =>
        intro t ht1 ht2 hm2
        have e8 : nI k + nI 8 * nI t = nI (k + 8 * t) := by rw [znmul, nI_add]
        have hwt : w * t ≤ 10 * t := Nat.mul_le_mul_right t hw
        have k127 : ∀ (s2 : mS) (h2 : zm_H), zM K ad s2 h2 → mO 2 s1 s2 → zm_Go E 0 0 127 [(0, .ref (ad 0)), (1, .ref (ad 20)), (2, .int (nI n)), (3, .int (nI w)), (4, .int (nI k)), (6, .int (nI t)), (7, .int (nI 0))] [] h2 := by
          intro s2 h2 X2 O2
          suffices k127b : ∀ (m3 j : Nat) (s3 : mS) (h3 : zm_H), zM K ad s3 h3 → mO j s2 s3 → j ≤ w * t → w * t - j < m3 → zm_Go E 0 0 127 [(0, .ref (ad 0)), (1, .ref (ad 20)), (2, .int (nI n)), (3, .int (nI w)), (4, .int (nI k)), (6, .int (nI t)), (7, .int (nI (8 * j)))] [] h3 from k127b (w * t + 1) 0 s2 h2 X2 (mO.rf 0 s2) (by omega) (by omega)
          intro m3
          induction m3 with
          | zero => intro j s3 h3 _ _ _ g; omega
          | succ m3 ih3 =>
            intro j s3 h3 X3 O3 hj hm3
            have hi3 := ((O1.trans O2).trans O3).hi
            have e9 : nI 8 * nI w * nI t = nI (8 * (w * t)) := by rw [znmul, znmul, Nat.mul_assoc]
            refine B_X9_writeRuns_127 C Rt ⟨fun _ => ?_, fun g4 => ?_⟩
            · rw [e8]
              exact ih (k + 8 * t) _ s3 h3 X3 ((O1.trans O2).trans O3) (by omega) ht2 (by omega)
            · rw [e9] at g4
              have hj2 : j < w * t := by
                rcases Nat.lt_or_ge j (w * t) with z | z
                · exact z
                · exact absurd (nI_le (by omega) (by omega)) g4
              have hw0 : 0 < w := by
                rcases Nat.eq_zero_or_pos w with z | z
                · subst z
                  omega
                · exact z
              suffices k145 : ∀ (m4 i : Nat) (y : Int32), i ≤ 8 → 8 - i < m4 → zm_Go E 0 0 145 [(0, .ref (ad 0)), (1, .ref (ad 20)), (2, .int (nI n)), (3, .int (nI w)), (4, .int (nI k)), (6, .int (nI t)), (7, .int (nI (8 * j))), (8, .int y), (9, .int (nI i))] [] h3 from k145 9 0 _ (by omega) (by omega)
              intro m4
              induction m4 with
              | zero => intro i y _ g; omega
              | succ m4 ih4 =>
                intro i y hi8 hm4
                refine B_X9_writeRuns_145 C Rt (Nat.le_refl 0) (Nat.le_refl 0) ⟨fun _ => ?_, fun g5 => ⟨nI_ne0 hw0 (by omega), ?_⟩⟩
                · refine m_put X3 (by omega) fun s4 h4 X4 O4 => ?_
                  rw [nI_add]
                  exact ih3 (j + 1) s4 h4 X4 (O3.trans O4) (by omega) (by omega)
                · have hi9 : i < 8 := by
                    rcases Nat.lt_or_ge i 8 with z | z
                    · exact z
                    · exact absurd (nI_le z (by omega)) g5
                  have hd : (8 * j + i) / w ≤ 8 * j + i := Nat.div_le_self _ _
                  have e1 : nI k + (nI (8 * j) + nI i) / nI w = nI (k + (8 * j + i) / w) := by rw [nI_add, zndiv (by omega) (by omega), nI_add]
                  refine ⟨fun _ => ?_, fun g6 => ?_⟩
                  · rw [nI_add]
                    exact ih4 (i + 1) y (by omega) (by omega)
                  · rw [e1] at g6
                    have hq : k + (8 * j + i) / w < n := by
                      rcases Nat.lt_or_ge (k + (8 * j + i) / w) n with z | z
                      · exact z
                      · exact absurd (nI_le z (by generalize (8 * j + i) / w = c at *; omega)) g6
                    refine X3.ld 20 (k + (8 * j + i) / w) (by decide) (show _ < 1008 by omega) e1 ⟨nI_ne0 hw0 (by omega), ?_⟩
                    rw [nI_add (a := i)]
                    exact ih4 (i + 1) _ (by omega) (by omega)
        have ev : lN 2 * (nI t).toInt64 + lN 1 = lN (2 * t + 1) := by rw [nI_l (by omega), lN_mul, lN_add]
        refine B_X9_writeRuns_75 C Rt (Nat.le_refl 0) (Nat.le_refl 0) ⟨fun _ => ?_, fun g3 => ?_⟩
        · exact m_varint2 X1 ev (by omega) (by omega) k127
        · rw [e8] at g3
          have hq : k + 8 * t < n := by
            rcases Nat.lt_or_ge (k + 8 * t) n with z | z
            · exact z
            · exact absurd (nI_le z (by omega)) g3
          refine m_alike X1 hn hq e8 fun c _ _ => ⟨fun _ => m_varint2 X1 ev (by omega) (by omega) k127, fun _ => ?_⟩
          rw [nI_add]
          exact ih2 (t + 1) (by omega) (by omega) (by omega)
    · have hc8 : 8 ≤ c := by
        rcases Nat.lt_or_ge c 8 with z | z
        · exact absurd (nI_lt z (by omega)) g2
        · exact z
      refine m_varint2 X1 (x := 2 * c) (by rw [nI_l (by omega), lN_mul]) (by omega) (by omega) fun s2 h2 X2 O2 => ?_
      suffices k39 : ∀ (m3 j : Nat) (s3 : mS) (h3 : zm_H), zM K ad s3 h3 → mO j s2 s3 → j ≤ 2 → 2 - j < m3 → zm_Go E 0 0 39 [(0, .ref (ad 0)), (1, .ref (ad 20)), (2, .int (nI n)), (3, .int (nI w)), (4, .int (nI k)), (5, .int (nI c)), (6, .int (nI (8 * j)))] [] h3 from k39 3 0 s2 h2 X2 (mO.rf 0 s2) (by omega) (by omega)
      intro m3
      induction m3 with
      | zero => intro j s3 h3 _ _ _ g; omega
      | succ m3 ih3 =>
        intro j s3 h3 X3 O3 hj hm3
        have hi3 := ((O1.trans O2).trans O3).hi
        refine B_X9_writeRuns_39 C Rt (Nat.le_refl 0) (Nat.le_refl 0) ⟨fun _ => ?_, fun g4 => ?_⟩
        · rw [nI_add]
          exact ih (k + c) _ s3 h3 X3 ((O1.trans O2).trans O3) (by omega) (by omega) (by omega)
        · have hj2 : j < 2 := by
            rcases Nat.lt_or_ge j 2 with z | z
            · exact z
            · exact absurd (nI_le (by omega) (by omega)) g4
          refine X3.ld 20 k (by decide) (show k < 1008 by omega) rfl (m_put X3 (by omega) fun s4 h4 X4 O4 => ?_)
          rw [nI_add]
          exact ih3 (j + 1) s4 h4 X4 (O3.trans O4) (by omega) (by omega)
theorem r_lengthOf (X : zM K ad s h) (R : mRw s f) {k : Nat} (hk : k < s.fi 7) : zm_Ct K M_X9_lengthOf [.ref (ad 0), .int (nI k)] h (fun r h' => h' = h ∧ r = some (.int (nI (f (k + 1) - f k)))) := by
  refine zm_meet (by decide) (Nat.le_of_ble_eq_true rfl) ?_
  intro E C Rt _
  have hc := R.1
  refine B_X9_lengthOf_0 C Rt (Nat.le_refl 0) (Nat.le_refl 0) (X.gR 1 rfl (X.ld 1 (k + 1) (by decide) (show k + 1 < 1001 by omega) (nI_add _ _) (X.gR 1 rfl (X.ld 1 k (by decide) (show k < 1001 by omega) rfl ⟨rfl, ?_⟩))))
  rw [R.2.1, R.2.1, znsub (R.2.2.2 k hk).1]
theorem m_lengthOf (X : zM K ad s h) (R : mRw s f) {k : Nat} (hk : k < s.fi 7) {i : Int32} (hi : i = nI k) {F : Int32 → zm_H → Prop} (hF : F (nI (f (k + 1) - f k)) h) : zm_rc h (ad 0) 9 ∧ zm_ci K M_X9_lengthOf [.ref (ad 0), .int i] h F := by
  subst hi
  refine ⟨X.rc, _, r_lengthOf X R hk, fun r h' q => ?_⟩
  obtain ⟨rfl, rfl⟩ := q
  exact ⟨_, rfl, hF⟩
end ZMX
