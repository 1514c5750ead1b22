section ZY
variable {K : zm_K} {ad : Nat → Nat} {sw rw : Bool} {T : Nat} {h : zm_H}
def poX (K : zm_K) (ad : Nat → Nat) (sw rw : Bool) (T : Nat) : zm_Po := fun v h' => v = none ∧ zX K ad sw rw T h'
def poXi (K : zm_K) (ad : Nat → Nat) (sw rw : Bool) (T : Nat) : zm_Po := fun v h' => (∃ y : Int32, v = some (.int y)) ∧ zX K ad sw rw T h'
def poXl (K : zm_K) (ad : Nat → Nat) (sw rw : Bool) (T : Nat) : zm_Po := fun v h' => (∃ y : Int64, v = some (.long y)) ∧ zX K ad sw rw T h'
theorem t_cv {M : zm_M} {as : List Value} {F : zm_H → Prop} (hM : zm_Ct K M as h (poX K ad sw rw T)) (hF : ∀ h', zX K ad sw rw T h' → F h') : zm_cv K M as h F := ⟨_, hM, fun _ _ q => ⟨q.1, hF _ q.2⟩⟩
theorem t_ci {M : zm_M} {as : List Value} {F : Int32 → zm_H → Prop} (hM : zm_Ct K M as h (poXi K ad sw rw T)) (hF : ∀ y h', zX K ad sw rw T h' → F y h') : zm_ci K M as h F := ⟨_, hM, fun _ _ q => q.1.elim (fun y e => ⟨y, e, hF y _ q.2⟩)⟩
theorem t_cl {M : zm_M} {as : List Value} {F : Int64 → zm_H → Prop} (hM : zm_Ct K M as h (poXl K ad sw rw T)) (hF : ∀ y h', zX K ad sw rw T h' → F y h') : zm_cl K M as h F := ⟨_, hM, fun _ _ q => q.1.elim (fun y e => ⟨y, e, hF y _ q.2⟩)⟩
/-! the Scan -/
theorem t_src (X : zX K ad sw rw T h) : zm_rc h (ad 28) 7 := by
  obtain ⟨_, h1, j, at9, lim, flt, hj, rfl⟩ := X.2 28 (by decide)
  simp only [zm_rc, h1]
theorem t_varint (X : zX K ad sw rw T h) {F : Int64 → zm_H → Prop} (hF : ∀ y h', zX K ad sw rw T h' → F y h') : zm_rc h (ad 28) 7 ∧ zm_cl K M_X7_varint [.ref (ad 28)] h F := by
  refine ⟨t_src X, ?_⟩
  obtain ⟨j, at9, lim, flt, n, t, hj, j32, ne, hn, h1, h2, hid, st⟩ := X.scan
  have M := k_X7_varint (K := K) (h := h) (at9 := at9) (lim := lim) (flt := flt) h2 (by omega) ne
  rw [hid] at M
  refine ⟨_, M, fun v h' q => ?_⟩
  obtain ⟨⟨y, rfl⟩, a2, f2, rfl⟩ := q
  exact ⟨y, rfl, hF y _ (st _ _ _)⟩
theorem t_failed (X : zX K ad sw rw T h) {F : Int32 → zm_H → Prop} (hF : ∀ y, F y h) : zm_rc h (ad 28) 7 ∧ zm_ci K M_X7_failed [.ref (ad 28)] h F := by
  refine ⟨t_src X, ?_⟩
  obtain ⟨j, at9, lim, flt, n, t, hj, j32, ne, hn, h1, h2, hid, st⟩ := X.scan
  have M := k_X7_failed (K := K) (h := h) (s := ad 28) (ca := ad j) (at9 := at9) (lim := lim) (flt := flt)
  rw [hid] at M
  refine ⟨_, M, fun v h' q => ?_⟩
  obtain ⟨rfl, ⟨_, rfl⟩ | ⟨_, rfl⟩⟩ := q
  · exact ⟨_, rfl, hF _⟩
  · exact ⟨_, rfl, hF _⟩
theorem t_fail (X : zX K ad sw rw T h) {x : Int32} {F : zm_H → Prop} (hF : ∀ h', zX K ad sw rw T h' → F h') : zm_rc h (ad 28) 7 ∧ zm_cv K M_X7_fail [.ref (ad 28), .int x] h F := by
  refine ⟨t_src X, ?_⟩
  obtain ⟨j, at9, lim, flt, n, t, hj, j32, ne, hn, h1, h2, hid, st⟩ := X.scan
  have M := k_X7_fail (K := K) (h := h) (s := ad 28) (ca := ad j) (at9 := at9) (lim := lim) (flt := flt) (x := x)
  rw [hid] at M
  refine ⟨_, M, fun v h' q => ?_⟩
  obtain ⟨rfl, rfl⟩ := q
  exact ⟨rfl, hF _ (st _ _ _)⟩
theorem t_expectEnd (X : zX K ad sw rw T h) {F : zm_H → Prop} (hF : ∀ h', zX K ad sw rw T h' → F h') : zm_rc h (ad 28) 7 ∧ zm_cv K M_X7_expectEnd [.ref (ad 28)] h F := by
  refine ⟨t_src X, ?_⟩
  obtain ⟨j, at9, lim, flt, n, t, hj, j32, ne, hn, h1, h2, hid, st⟩ := X.scan
  have M := k_X7_expectEnd (K := K) (h := h) (s := ad 28) (ca := ad j) (at9 := at9) (lim := lim) (flt := flt)
  rw [hid] at M
  refine ⟨_, M, fun v h' q => ?_⟩
  obtain ⟨rfl, a2, f2, rfl⟩ := q
  exact ⟨rfl, hF _ (st _ _ _)⟩
theorem t_nextByte (X : zX K ad sw rw T h) {F : Int32 → zm_H → Prop} (hF : ∀ y h', zX K ad sw rw T h' → F y h') : zm_rc h (ad 28) 7 ∧ zm_ci K M_X7_nextByte [.ref (ad 28)] h F := by
  refine ⟨t_src X, ?_⟩
  obtain ⟨j, at9, lim, flt, n, t, hj, j32, ne, hn, h1, h2, hid, st⟩ := X.scan
  have M := k_X7_nextByte (K := K) (h := h) (at9 := at9) (lim := lim) (flt := flt) h2 (by omega) ne
  rw [hid] at M
  refine ⟨_, M, fun v h' q => ?_⟩
  obtain ⟨⟨y, rfl⟩, a2, f2, rfl⟩ := q
  exact ⟨y, rfl, hF y _ (st _ _ _)⟩
theorem t_holds (X : zX K ad sw rw T h) {x : Int64} {F : Int32 → zm_H → Prop} (hF : ∀ y h', zX K ad sw rw T h' → F y h') : zm_rc h (ad 28) 7 ∧ zm_ci K M_X7_holds [.ref (ad 28), .long x] h F := by
  refine ⟨t_src X, ?_⟩
  obtain ⟨j, at9, lim, flt, n, t, hj, j32, ne, hn, h1, h2, hid, st⟩ := X.scan
  have M := k_X7_holds (K := K) (h := h) (s := ad 28) (ca := ad j) (at9 := at9) (lim := lim) (flt := flt) (x := x)
  rw [hid] at M
  refine ⟨_, M, fun v h' q => ?_⟩
  obtain ⟨⟨y, rfl⟩, f2, rfl⟩ := q
  exact ⟨y, rfl, hF y _ (st _ _ _)⟩
theorem t_bitsAt (X : zX K ad sw rw T h) {x1 x2 : Int32} {F : Int64 → zm_H → Prop} (hF : ∀ y, F y h) : zm_rc h (ad 28) 7 ∧ zm_cl K M_X7_bitsAt [.ref (ad 28), .int x1, .int x2] h F := by
  refine ⟨t_src X, ?_⟩
  obtain ⟨j, at9, lim, flt, n, t, hj, j32, ne, hn, h1, h2, hid, st⟩ := X.scan
  have M := k_X7_bitsAt (K := K) (h := h) (at9 := at9) (lim := lim) (flt := flt) (x1 := x1) (x2 := x2) h2 (by omega) ne
  rw [hid] at M
  refine ⟨_, M, fun v h' q => ?_⟩
  obtain ⟨rfl, y, rfl⟩ := q
  exact ⟨y, rfl, hF y⟩
theorem t_satG (X : zX K ad sw rw T h) {F : Int32 → Prop} (hF : ∀ y, F y) : zm_gI h (ad 28) 7 1 F := by
  obtain ⟨_, h1, j, at9, lim, flt, hj, rfl⟩ := X.2 28 (by decide)
  simp only [zm_gI, h1, List.getElem?_cons_zero, List.getElem?_cons_succ, true_and]
  exact hF _
theorem t_slimG (X : zX K ad sw rw T h) {F : Int32 → Prop} (hF : ∀ y, F y) : zm_gI h (ad 28) 7 2 F := by
  obtain ⟨_, h1, j, at9, lim, flt, hj, rfl⟩ := X.2 28 (by decide)
  simp only [zm_gI, h1, List.getElem?_cons_zero, List.getElem?_cons_succ, true_and]
  exact hF _
theorem t_sfltG (X : zX K ad sw rw T h) {F : Int32 → Prop} (hF : ∀ y, F y) : zm_gI h (ad 28) 7 3 F := by
  obtain ⟨_, h1, j, at9, lim, flt, hj, rfl⟩ := X.2 28 (by decide)
  simp only [zm_gI, h1, List.getElem?_cons_zero, List.getElem?_cons_succ, true_and]
  exact hF _
theorem t_satP (X : zX K ad sw rw T h) {x : Int32} {F : zm_H → Prop} (hF : ∀ h', zX K ad sw rw T h' → F h') : zm_pf h (ad 28) 7 1 (.int x) F := by
  obtain ⟨_, h1, j, at9, lim, flt, hj, rfl⟩ := X.2 28 (by decide)
  simp only [zm_pf, h1, List.set_cons_zero, List.set_cons_succ, List.length_cons, List.length_nil, true_and]
  exact ⟨by decide, hF _ (X.set 28 (by decide) ⟨j, _, _, _, hj, rfl⟩)⟩
theorem t_slimP (X : zX K ad sw rw T h) {x : Int32} {F : zm_H → Prop} (hF : ∀ h', zX K ad sw rw T h' → F h') : zm_pf h (ad 28) 7 2 (.int x) F := by
  obtain ⟨_, h1, j, at9, lim, flt, hj, rfl⟩ := X.2 28 (by decide)
  simp only [zm_pf, h1, List.set_cons_zero, List.set_cons_succ, List.length_cons, List.length_nil, true_and]
  exact ⟨by decide, hF _ (X.set 28 (by decide) ⟨j, _, _, _, hj, rfl⟩)⟩
/-! a Code: at 13, or at 16 -/
def zC (k : Nat) : Prop := k = 13 ∨ k = 16
theorem zX.code (X : zX K ad sw rw T h) {k : Nat} (hk : zC k) : ∃ c f w, c ≤ 2000 ∧ h (ad k) = some (.inr (1, [.ref (ad (k + 1)), .ref (ad (k + 2)), .int (nI c)])) ∧ h (ad (k + 1)) = some (zL K 2000 f) ∧ h (ad (k + 2)) = some (zI K 4 w) ∧ (∀ c', c' ≤ 2000 → zX K ad sw rw T (zm_set h (ad k) (.inr (1, [.ref (ad (k + 1)), .ref (ad (k + 2)), .int (nI c')])))) ∧ (∀ f', zX K ad sw rw T (zm_set h (ad (k + 1)) (zL K 2000 f'))) ∧ ∀ w', zX K ad sw rw T (zm_set h (ad (k + 2)) (zI K 4 w')) := by
  rcases hk with rfl | rfl
  · obtain ⟨_, h1, c, hc, rfl⟩ := X.2 13 (by decide)
    obtain ⟨_, h2, f, rfl⟩ := X.2 14 (by decide)
    obtain ⟨_, h3, w, rfl⟩ := X.2 15 (by decide)
    exact ⟨c, f, w, hc, h1, h2, h3, fun c' hc' => X.set 13 (by decide) ⟨_, hc', rfl⟩, fun _ => X.set 14 (by decide) ⟨_, rfl⟩, fun _ => X.set 15 (by decide) ⟨_, rfl⟩⟩
  · obtain ⟨_, h1, c, hc, rfl⟩ := X.2 16 (by decide)
    obtain ⟨_, h2, f, rfl⟩ := X.2 17 (by decide)
    obtain ⟨_, h3, w, rfl⟩ := X.2 18 (by decide)
    exact ⟨c, f, w, hc, h1, h2, h3, fun c' hc' => X.set 16 (by decide) ⟨_, hc', rfl⟩, fun _ => X.set 17 (by decide) ⟨_, rfl⟩, fun _ => X.set 18 (by decide) ⟨_, rfl⟩⟩
theorem t_crc (X : zX K ad sw rw T h) {k : Nat} (hk : zC k) : zm_rc h (ad k) 1 := by
  obtain ⟨c, f, w, hc, h1, -⟩ := X.code hk
  simp only [zm_rc, h1]
theorem t_ccG (X : zX K ad sw rw T h) {k : Nat} (hk : zC k) {F : Int32 → Prop} (hF : ∀ c, c ≤ 2000 → F (nI c)) : zm_gI h (ad k) 1 2 F := by
  obtain ⟨c, f, w, hc, h1, -⟩ := X.code hk
  simp only [zm_gI, h1, List.getElem?_cons_zero, List.getElem?_cons_succ, true_and]
  exact hF c hc
theorem t_ccP (X : zX K ad sw rw T h) {k c : Nat} (hk : zC k) (hc : c ≤ 2000) {F : zm_H → Prop} (hF : ∀ h', zX K ad sw rw T h' → F h') : zm_pf h (ad k) 1 2 (.int (nI c)) F := by
  obtain ⟨_, f, w, -, h1, -, -, st, -⟩ := X.code hk
  simp only [zm_pf, h1, List.set_cons_zero, List.set_cons_succ, List.length_cons, List.length_nil, true_and]
  exact ⟨by decide, hF _ (st c hc)⟩
theorem t_cnG (X : zX K ad sw rw T h) {k : Nat} (hk : zC k) {F : Nat → Prop} (hF : F (ad (k + 1))) : zm_gR h (ad k) 1 0 F := by
  obtain ⟨c, f, w, hc, h1, -⟩ := X.code hk
  simp only [zm_gR, h1, List.getElem?_cons_zero, List.getElem?_cons_succ, true_and]
  exact hF
theorem t_cwG (X : zX K ad sw rw T h) {k : Nat} (hk : zC k) {F : Nat → Prop} (hF : F (ad (k + 2))) : zm_gR h (ad k) 1 1 F := by
  obtain ⟨c, f, w, hc, h1, -⟩ := X.code hk
  simp only [zm_gR, h1, List.getElem?_cons_zero, List.getElem?_cons_succ, true_and]
  exact hF
theorem t_cnL (X : zX K ad sw rw T h) {k i : Nat} (hk : zC k) (hi : i < 2000) {F : Int64 → Prop} (hF : ∀ x, F x) : zm_lL K h (ad (k + 1)) (nI i) F := by
  obtain ⟨c, f, w, hc, h1, h2, -⟩ := X.code hk
  unfold zL at h2
  simp only [zm_lL, h2, true_and]
  exact ⟨vp_in_nI hi (by decide), hF _⟩
theorem t_cnS (X : zX K ad sw rw T h) {k i : Nat} (hk : zC k) (hi : i < 2000) {x : Int64} {F : zm_H → Prop} (hF : ∀ h', zX K ad sw rw T h' → F h') : zm_sL K h (ad (k + 1)) (nI i) x F := by
  obtain ⟨c, f, w, hc, h1, h2, -, -, st, -⟩ := X.code hk
  unfold zL at h2
  simp only [zm_sL, h2, true_and]
  exact ⟨vp_in_nI hi (by decide), hF _ (st _)⟩
theorem t_cwL (X : zX K ad sw rw T h) {k i : Nat} (hk : zC k) (hi : i < 4) {F : Int32 → Prop} (hF : ∀ x, F x) : zm_ld K 1 h (ad (k + 2)) (nI i) F := by
  obtain ⟨c, f, w, hc, h1, h2, h3, -⟩ := X.code hk
  unfold zI at h3
  simp only [zm_ld, h3, true_and]
  exact ⟨vp_in_nI hi (by decide), hF _⟩
theorem t_cwS (X : zX K ad sw rw T h) {k i : Nat} (hk : zC k) (hi : i < 4) {x : Int32} {F : zm_H → Prop} (hF : ∀ h', zX K ad sw rw T h' → F h') : zm_sI K h (ad (k + 2)) (nI i) x F := by
  obtain ⟨c, f, w, hc, h1, h2, h3, -, -, st⟩ := X.code hk
  unfold zI at h3
  simp only [zm_sI, h3, true_and]
  exact ⟨vp_in_nI hi (by decide), hF _ (st _)⟩
theorem zmin {a b : Nat} (ha : a < 2 ^ 31) (hb : b < 2 ^ 31) : (if nI a < nI b then nI a else nI b) = nI (min a b) := by
  by_cases q : a < b
  · rw [if_pos ((nI_ltI ha hb).mpr q), Nat.min_eq_left (by omega)]
  · rw [if_neg (fun z => q ((nI_ltI ha hb).mp z)), Nat.min_eq_right (by omega)]
theorem k_X1_zigzag {x : Int64} : zm_Ct K M_X1_zigzag [.long x] h (fun v h' => h' = h ∧ ∃ y : Int64, v = some (.long y)) := by
  refine zm_meet (by decide) (Nat.le_of_ble_eq_true rfl) ?_
  intro E C Rt _
  exact B_X1_zigzag_0 C Rt (Nat.le_refl 0) (Nat.le_refl 0) ⟨rfl, _, rfl⟩
theorem k_X1_unzigzag {x : Int64} : zm_Ct K M_X1_unzigzag [.long x] h (fun v h' => h' = h ∧ ∃ y : Int64, v = some (.long y)) := by
  refine zm_meet (by decide) (Nat.le_of_ble_eq_true rfl) ?_
  intro E C Rt _
  exact B_X1_unzigzag_0 C Rt (Nat.le_refl 0) (Nat.le_refl 0) ⟨rfl, _, rfl⟩
theorem t_zig {x : Int64} {F : Int64 → zm_H → Prop} (hF : ∀ y, F y h) : zm_cl K M_X1_zigzag [.long x] h F := ⟨_, k_X1_zigzag, fun _ _ q => by
  obtain ⟨rfl, y, rfl⟩ := q
  exact ⟨y, rfl, hF y⟩⟩
theorem t_unzig {x : Int64} {F : Int64 → zm_H → Prop} (hF : ∀ y, F y h) : zm_cl K M_X1_unzigzag [.long x] h F := ⟨_, k_X1_unzigzag, fun _ _ q => by
  obtain ⟨rfl, y, rfl⟩ := q
  exact ⟨y, rfl, hF y⟩⟩
end ZY
