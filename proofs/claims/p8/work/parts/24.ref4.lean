theorem zsub_le {m a p : Nat} (hm : m < 2 ^ 31) (ha : a < 2 ^ 31) (hp : p < 2 ^ 31) : nI a - nI p ≤ nI m ↔ a ≤ m + p := by
  rw [Int32.le_iff_toInt_le, zsubI ha hp, nI_toInt hm]
  omega
theorem zsub_le' {m a p q : Nat} (hm : m + q < 2 ^ 31) (ha : a < 2 ^ 31) (hp : p < 2 ^ 31) : nI a - nI p ≤ nI m + nI q ↔ a ≤ m + q + p := by
  rw [nI_add]
  exact zsub_le hm ha hp
section ZMV
variable {K : zm_K} {ad : Nat → Nat} {s : mS} {h : zm_H}
theorem m_widthOf (X : zM K ad s h) {p last B : Nat} {l : Int64} (hl : last < 2000) (hp : p < 2000) (hB : B ≤ 64) (hx : ∀ k, p ≤ k → k < last → ∃ x, x < 2 ^ B ∧ mD s k - l = lN x) {F : Int32 → zm_H → Prop} (hF : ∀ w, w ≤ B → F (nI w) h) : zm_rc h (ad 0) 9 ∧ zm_ci K M_X9_widthOf [.ref (ad 0), .int (nI p), .int (nI last), .long l] h F := by
  refine ⟨X.rc, _, r_widthOf X hl hp hB hx, fun r h' q => ?_⟩
  obtain ⟨rfl, w, hw, rfl⟩ := q
  exact ⟨_, rfl, hF w hw⟩
theorem r_writeLongs (X : zM K ad s h) {B T : Nat} (hT : T = 14 + 8 * B) (hlc : s.fi 19 ≤ 1000) (hW : mW B s) (ho : s.fi 15 + (20 + 16 * T) ≤ 60000) : zm_Ct K M_X9_writeLongs [.ref (ad 0)] h (poO K ad s (20 + 16 * T)) := by
  refine zm_meet (by decide) (Nat.le_of_ble_eq_true rfl) ?_
  intro E C Rt _
  have k31 : ∀ (m j n : Nat) (s1 : mS) (h1 : zm_H), zM K ad s1 h1 → mO n s s1 → n ≤ 20 + j * T → j ≤ 16 → 16 - j < m → zm_Go E 0 0 31 [(0, .ref (ad 0)), (1, .int (nI (64 * j)))] [] h1 := by
    intro m
    induction m with
    | zero => intro j n s1 h1 _ _ _ _ g; omega
    | succ m ih =>
      intro j n s1 h1 X1 O1 hn hj hm
      have e19 := O1.fi 19 (by decide)
      have hjT : j * T ≤ 16 * T := Nat.mul_le_mul_right T hj
      refine B_X9_writeLongs_31 C Rt (Nat.le_refl 0) (Nat.le_refl 0) (X1.gI 19 rfl ⟨fun _ => ⟨rfl, s1, X1, O1.mono (by omega)⟩, fun g => ?_⟩)
      have hlc1 : 64 * j + 1 < s.fi 19 := by
        rcases Nat.lt_or_ge (64 * j + 1) (s.fi 19) with q | q
        · exact q
        · exact absurd ((zsub_le (by omega) (by omega) (by omega)).mpr (by omega)) g
      have hjT1 : (j + 1) * T ≤ 16 * T := Nat.mul_le_mul_right T (by omega)
      have eT : (j + 1) * T = j * T + T := Nat.succ_mul j T
      have k77 : ∀ (L : Nat), 64 * j < L → L ≤ 64 * j + 64 → L < s.fi 19 → ∀ (m k : Nat) (l : Int64), 64 * j ≤ k → k ≤ L → (∃ k', 64 * j ≤ k' ∧ k' < L ∧ l = mD s k') → (∀ k', 64 * j ≤ k' → k' < k → l ≤ mD s k') → L - k < m → zm_Go E 0 0 77 [(0, .ref (ad 0)), (1, .int (nI (64 * j))), (2, .int (nI L)), (3, .long l), (5, .int (nI k))] [] h1 := by
        intro L hL0 hL1 hL2 m7
        induction m7 with
        | zero => intro k l _ _ _ _ g; omega
        | succ m7 ih7 =>
          intro k l hk0 hk1 hex hle hm7
          refine B_X9_writeLongs_77 C Rt (Nat.le_refl 0) (Nat.le_refl 0) ⟨fun g7 => ?_, fun g7 => ?_⟩
          · have hkL : L ≤ k := (nI_leI (by omega) (by omega)).mp g7
            have hx : ∀ k', 64 * j ≤ k' → k' < L → ∃ x, x < 2 ^ B ∧ mD s k' - l = lN x := hW.2 (64 * j) L l hL2 hex (fun k' a b => hle k' a (by omega))
            refine m_pure r_zigzag fun y => m_putVarint X1 (by have := O1.hi; omega) fun s2 h2 X2 O2 => ?_
            have k152 : ∀ (m5 p n5 : Nat) (s5 : mS) (h5 : zm_H), zM K ad s5 h5 → mO n5 s s5 → n5 ≤ 20 + j * T + 14 + 2 * B * p → p ≤ 4 → 4 - p < m5 → zm_Go E 0 0 152 [(0, .ref (ad 0)), (1, .int (nI (64 * j))), (2, .int (nI L)), (3, .long l), (5, .int (nI (64 * j + 16 * p)))] [] h5 := by
              intro m5
              induction m5 with
              | zero => intro p n5 s5 h5 _ _ _ _ g; omega
              | succ m5 ih5 =>
                intro p n5 s5 h5 X5 O5 hn5 hp hm5
                have hB64 := hW.1
                have hpB : 2 * B * p ≤ 2 * B * 4 := Nat.mul_le_mul_left _ hp
                refine B_X9_writeLongs_152 C Rt (Nat.le_refl 0) (Nat.le_refl 0) ⟨fun _ => ?_, fun g5 => ?_⟩
                · rw [nI_add]
                  exact ih (j + 1) n5 s5 h5 X5 O5 (by omega) (by omega) (by omega)
                · have hp4 : p < 4 := by
                    rcases Nat.lt_or_ge p 4 with q | q
                    · exact q
                    · exact absurd (nI_le (by omega) (by omega)) g5
                  have hpB1 : 2 * B * (p + 1) ≤ 2 * B * 4 := Nat.mul_le_mul_left _ hp4
                  have epB : 2 * B * (p + 1) = 2 * B * p + 2 * B := Nat.mul_succ _ _
                  refine m_widthOf X5 (B := B) (by omega) (by omega) hB64 (fun k' a b => by rw [O5.df]; exact hx k' (by omega) b) fun w hw => ?_
                  refine ⟨X5.rc, m_cv (r_writePart X5 (by omega) (by omega) (by omega) (by have := O5.hi; omega)) fun s6 h6 X6 O6 => ?_⟩
                  rw [nI_add]
                  exact ih5 (p + 1) _ s6 h6 X6 (O5.trans O6) (by omega) (by omega) (by omega)
            suffices k122 : ∀ (m5 p n5 : Nat) (s5 : mS) (h5 : zm_H), zM K ad s5 h5 → mO n5 s s5 → n5 ≤ 20 + j * T + 10 + p → p ≤ 4 → 4 - p < m5 → zm_Go E 0 0 122 [(0, .ref (ad 0)), (1, .int (nI (64 * j))), (2, .int (nI L)), (3, .long l), (5, .int (nI (64 * j + 16 * p)))] [] h5 from k122 5 0 _ s2 h2 X2 (O1.trans O2) (by omega) (by omega) (by omega)
            intro m5
            induction m5 with
            | zero => intro p n5 s5 h5 _ _ _ _ g; omega
            | succ m5 ih5 =>
              intro p n5 s5 h5 X5 O5 hn5 hp hm5
              have hB64 := hW.1
              refine B_X9_writeLongs_122 C Rt (Nat.le_refl 0) (Nat.le_refl 0) ⟨fun _ => ?_, fun g5 => ?_⟩
              · exact k152 5 0 n5 s5 h5 X5 O5 (by omega) (by omega) (by omega)
              · have hp4 : p < 4 := by
                  rcases Nat.lt_or_ge p 4 with q | q
                  · exact q
                  · exact absurd (by rw [nI_add]; exact nI_le (by omega) (by omega)) g5
                refine m_widthOf X5 (B := B) (by omega) (by omega) hB64 (fun k' a b => by rw [O5.df]; exact hx k' (by omega) b) fun w hw => ?_
                refine m_put X5 (by have := O5.hi; omega) fun s6 h6 X6 O6 => ?_
                rw [nI_add]
                exact ih5 (p + 1) _ s6 h6 X6 (O5.trans O6) (by omega) (by omega) (by omega)
          · have hkL : k < L := by
              rcases Nat.lt_or_ge k L with q | q
              · exact q
              · exact absurd (nI_le q (by omega)) g7
            refine m_difference X1 (by omega) rfl ?_
            rw [O1.df]
            refine ⟨fun g8 => ?_, fun g8 => m_difference X1 (by omega) rfl ?_⟩
            · rw [nI_add]
              refine ih7 (k + 1) l (by omega) (by omega) hex (fun k' a b => ?_) (by omega)
              rcases Nat.lt_or_ge k' k with q | q
              · exact hle k' a q
              · rw [show k' = k by omega]
                exact (lg_cmp_ge _ _).mp g8
            · rw [O1.df, nI_add]
              have hlt : mD s k < l := by
                rw [lg_cmp_ge] at g8
                exact Int64.not_le.mp g8
              refine ih7 (k + 1) _ (by omega) (by omega) ⟨k, hk0, hkL, rfl⟩ (fun k' a b => ?_) (by omega)
              rcases Nat.lt_or_ge k' k with q | q
              · exact Int64.le_trans (Int64.le_of_lt hlt) (hle k' a q)
              · rw [show k' = k by omega]
                exact Int64.le_refl _
      refine X1.gI 19 rfl ⟨fun g2 => X1.gI 19 rfl (m_difference X1 (by omega) rfl ?_), fun g2 => m_difference X1 (by omega) rfl ?_⟩
      · rw [e19, zsub_le' (by omega) (by omega) (by omega)] at g2
        rw [O1.df, e19, znsub (by omega)]
        exact k77 (s.fi 19 - 1) (by omega) (by omega) (by omega) _ (64 * j) _ (by omega) (by omega) ⟨64 * j, by omega, by omega, rfl⟩ (fun k' a b => absurd b (by omega)) (Nat.lt_succ_self _)
      · rw [e19, zsub_le' (by omega) (by omega) (by omega)] at g2
        rw [O1.df, nI_add]
        exact k77 (64 * j + 64) (by omega) (by omega) (by omega) _ (64 * j) _ (by omega) (by omega) ⟨64 * j, by omega, by omega, rfl⟩ (fun k' a b => absurd b (by omega)) (Nat.lt_succ_self _)
  refine B_X9_writeLongs_0 C Rt (Nat.le_refl 0) (Nat.le_refl 0) (X.gI 19 rfl (m_putVarint X (by omega) fun s1 h1 X1 O1 => X1.gI 19 rfl ⟨fun _ => ?_, fun g => ?_⟩))
  · exact k31 17 0 10 s1 h1 X1 O1 (by omega) (by omega) (by omega)
  · refine X1.gR 18 rfl (X1.lL 0 (by decide) rfl (m_pure r_zigzag fun y => m_putVarint X1 (by have := O1.hi; omega) fun s2 h2 X2 O2 => ?_))
    exact k31 17 0 20 s2 h2 X2 (O1.trans O2) (by omega) (by omega) (by omega)
theorem r_writeCode (X : zM K ad s h) {B T : Nat} (hT : T = 14 + 8 * B) (hlc : s.fi 19 ≤ 1000) (hW : mW B s) (ho : s.fi 15 + (30 + 16 * T) ≤ 60000) : zm_Ct K M_X9_writeCode [.ref (ad 0)] h (poO K ad s (30 + 16 * T)) := by
  refine zm_meet (by decide) (Nat.le_of_ble_eq_true rfl) ?_
  intro E C Rt _
  have keep : ∀ {n : Nat} {s' : mS}, mO n s s' → mW B s' := fun {n s'} O => ⟨hW.1, fun a b l hb => by
    rw [O.df]
    rw [O.fi 19 (by decide)] at hb
    exact hW.2 a b l hb⟩
  refine B_X9_writeCode_0 C Rt (Nat.le_refl 0) (Nat.le_refl 0) (X.gI 15 rfl ⟨X.rc, m_cv (r_writeLongs X hT hlc hW (by omega)) fun s1 h1 X1 O1 => X1.gI 15 rfl (X1.pf 15 (s.fi 15) rfl (by decide) rfl fun h2 X2 => ?_)⟩)
  have O2 : mO 0 s (s1.pf 15 (s.fi 15)) := ⟨fun k hk => (show zup s1.fi 15 (s.fi 15) k = s1.fi k from if_neg hk).trans (O1.fi k hk), O1.ai, O1.lg, Nat.le_refl _, Nat.le_refl _, O1.by9⟩
  refine m_putVarint X2 (show s.fi 15 + 10 ≤ 60000 by omega) fun s3 h3 X3 O3 => ?_
  have O4 := O2.trans O3
  have e19 := O4.fi 19 (by decide)
  have hi := O4.hi
  exact ⟨X3.rc, m_cv (r_writeLongs X3 hT (by omega) (keep O4) (by omega)) fun s5 h5 X5 O5 => ⟨rfl, s5, X5, (O4.trans O5).mono (by omega)⟩⟩
end ZMV
