section ZR8
variable {K : zm_K} {ad : Nat → Nat} {sw rw : Bool} {T : Nat} {h : zm_H}
theorem zX.fw (X : zX K ad sw rw T h) : h (ad 21) = some (.inr (3, [.ref (ad 13), .ref (ad 16), .ref (ad 19), .ref (ad 22), .ref (ad 25)])) := by
  obtain ⟨_, h1, rfl⟩ := X.2 21 (by decide)
  exact h1
theorem t_frc (X : zX K ad sw rw T h) : zm_rc h (ad 21) 3 := by simp only [zm_rc, X.fw]
theorem t_f0 (X : zX K ad sw rw T h) {F : Nat → Prop} (hF : F (ad 13)) : zm_gR h (ad 21) 3 0 F := by
  simp only [zm_gR, X.fw, List.getElem?_cons_zero, List.getElem?_cons_succ, true_and]
  exact hF
theorem t_f1 (X : zX K ad sw rw T h) {F : Nat → Prop} (hF : F (ad 16)) : zm_gR h (ad 21) 3 1 F := by
  simp only [zm_gR, X.fw, List.getElem?_cons_zero, List.getElem?_cons_succ, true_and]
  exact hF
theorem t_f2 (X : zX K ad sw rw T h) {F : Nat → Prop} (hF : F (ad 19)) : zm_gR h (ad 21) 3 2 F := by
  simp only [zm_gR, X.fw, List.getElem?_cons_zero, List.getElem?_cons_succ, true_and]
  exact hF
theorem t_f3 (X : zX K ad sw rw T h) {F : Nat → Prop} (hF : F (ad 22)) : zm_gR h (ad 21) 3 3 F := by
  simp only [zm_gR, X.fw, List.getElem?_cons_zero, List.getElem?_cons_succ, true_and]
  exact hF
theorem t_f4 (X : zX K ad sw rw T h) {F : Nat → Prop} (hF : F (ad 25)) : zm_gR h (ad 21) 3 4 F := by
  simp only [zm_gR, X.fw, List.getElem?_cons_zero, List.getElem?_cons_succ, true_and]
  exact hF
theorem zW1 : zW 1 24000 := Or.inl ⟨rfl, rfl⟩
theorem zW25 : zW 25 2000 := Or.inr ⟨rfl, rfl⟩
theorem zC13 : zC 13 := Or.inl rfl
theorem zC16 : zC 16 := Or.inr rfl
theorem t_bszP (X : zX K ad sw rw T h) {o cap : Nat} (ho : zW o cap) {s : Nat} (hs : s ≤ cap) {F : zm_H → Prop} (hF : ∀ h', zX K ad sw rw T h' → F h') : zm_pf h (ad o) 0 1 (.int (nI s)) F := by
  obtain ⟨ne, hc, s0, t, hs0, h1, h2, hid, st⟩ := X.bytes ho
  simp only [zm_pf, h1, List.set_cons_zero, List.set_cons_succ, List.length_cons, List.length_nil, true_and]
  refine ⟨by decide, hF _ ?_⟩
  rcases ho with ⟨rfl, rfl⟩ | ⟨rfl, rfl⟩
  · exact X.set 1 (by decide) ⟨s, hs, rfl⟩
  · exact X.set 25 (by decide) ⟨s, hs, rfl⟩
theorem t_bcG (X : zX K ad sw rw T h) {o cap : Nat} (ho : zW o cap) {F : Nat → Prop} (hF : F (ad (o + 1))) : zm_gR h (ad o) 0 0 F := by
  obtain ⟨ne, hc, s0, t, hs0, h1, h2, hid, st⟩ := X.bytes ho
  simp only [zm_gR, h1, List.getElem?_cons_zero, List.getElem?_cons_succ, true_and]
  exact hF
/-- the row's bytes onto the output -/
theorem t_rowAll (X : zX K ad sw rw T h) {r : Nat} (hr : zV r) {x1 x2 : Int32} {F : zm_H → Prop} (hF : ∀ h', zX K ad sw rw T h' → F h') : zm_rc h (ad 1) 0 ∧ zm_cv K M_X0_putAll [.ref (ad 1), .ref (ad (r + 1)), .int x1, .int x2] h F := by
  obtain ⟨t, ht⟩ := X.cells hr
  exact t_putAll X zW1 (by rcases hr with rfl | rfl <;> decide) (by rcases hr with rfl | rfl <;> decide) ht (by decide) hF
theorem k_X3_putText (X : zX K ad sw rw T h) {r j : Nat} (hr : zV r) (hj : j < 1001) {a0 : Nat} : zm_Ct K M_X3_putText [.ref a0, .ref (ad r), .int (nI j), .ref (ad 1)] h (poX K ad sw rw T) := by
  refine zm_meet (by decide) (Nat.le_of_ble_eq_true rfl) ?_
  intro E C Rt _
  refine zm_loc [1, 2, 3] rfl ?_
  exact B_X3_putText_0 C Rt (Nat.le_refl 0) (Nat.le_refl 0) (t_lengthOf X hr fun y => t_putVarint X zW1 fun h1 X1 => t_wbG X1 hr (t_wsG X1 hr (t_wsL X1 hr hj fun s => t_lengthOf X1 hr fun y2 => t_rowAll X1 hr fun h2 X2 => ⟨rfl, X2⟩)))
theorem k_X3_putCode (X : zX K ad sw rw T h) {k : Nat} (hk : zC k) : zm_Ct K M_X3_putCode [.ref (ad 21), .ref (ad k), .ref (ad 1)] h (poX K ad sw rw T) := by
  refine zm_meet (by decide) (Nat.le_of_ble_eq_true rfl) ?_
  intro E C Rt _
  refine B_X3_putCode_0 C Rt (Nat.le_refl 0) (Nat.le_refl 0) (t_f4 X (t_bszP X zW25 (Nat.zero_le _) fun h1 X1 => t_f4 X1 ⟨t_crc X1 hk, t_cv (k_X1_writeOn X1 hk zW25) fun h2 X2 => t_f4 X2 (t_bsz X2 zW25 fun s => t_putVarint X2 zW1 fun h3 X3 => t_f4 X3 (t_bcG X3 zW25 (t_f4 X3 (t_bsz X3 zW25 fun s2 => ?_))))⟩))
  obtain ⟨ne, hc, s0, t, hs0, g1, g2, hid, st⟩ := X3.bytes zW25
  exact t_putAll X3 zW1 (by decide) (by decide) g2 (by decide) fun h4 X4 => ⟨rfl, X4⟩
theorem k_X3_plain (X : zX K ad sw rw T h) {r : Nat} (hr : zV r) : zm_Ct K M_X3_plain [.ref (ad 21), .ref (ad r), .ref (ad 1)] h (poX K ad sw rw T) := by
  refine zm_meet (by decide) (Nat.le_of_ble_eq_true rfl) ?_
  intro E C Rt _
  refine B_X3_plain_0 C Rt ?_
  suffices key : ∀ (m i : Nat) (h : zm_H), zX K ad sw rw T h → i ≤ 1000 → 1000 < m + i → zm_Go E 0 0 2 [(0, .ref (ad 21)), (1, .ref (ad r)), (2, .ref (ad 1)), (3, .int (nI i))] [] h from key 1001 0 h X (by omega) (by omega)
  intro m
  induction m with
  | zero => intro i h X h1 h2; omega
  | succ m ih =>
    intro i h X h1 h2
    refine B_X3_plain_2 C Rt (Nat.le_refl 0) (Nat.le_refl 0) (t_wcG X hr fun c f t R => ⟨fun _ => ⟨rfl, X⟩, fun g => ?_⟩)
    have g1 := R.2.2.2.1
    have g2 := zlt (by omega) g
    rw [nI_add]
    exact ⟨t_frc X, t_cv (k_X3_putText X hr (by omega)) fun h' X' => ih (i + 1) h' X' (by omega) (by omega)⟩
theorem k_X3_lengths (X : zX K ad sw rw T h) {r : Nat} (hr : zV r) : zm_Ct K M_X3_lengths [.ref (ad 21), .ref (ad r), .ref (ad 1)] h (poX K ad sw rw T) := by
  refine zm_meet (by decide) (Nat.le_of_ble_eq_true rfl) ?_
  intro E C Rt _
  have key : ∀ (m i : Nat) (h : zm_H), zX K ad sw rw T h → i ≤ 1000 → 1000 < m + i → zm_Go E 0 0 13 [(0, .ref (ad 21)), (1, .ref (ad r)), (2, .ref (ad 1)), (3, .int (nI i))] [] h := by
    intro m
    induction m with
    | zero => intro i h X h1 h2; omega
    | succ m ih =>
      intro i h X h1 h2
      refine B_X3_lengths_13 C Rt (Nat.le_refl 0) (Nat.le_refl 0) (t_wcG X hr fun c f t R => ⟨fun _ => t_f0 X ⟨t_frc X, t_cv (k_X3_putCode X zC13) fun h1 X1 => t_wbG X1 hr (t_total X1 hr fun y => t_rowAll X1 hr fun h2 X2 => ⟨rfl, X2⟩)⟩, fun g => ?_⟩)
      have g1 := R.2.2.2.1
      have g2 := zlt (by omega) g
      rw [nI_add]
      exact t_f0 X (t_cnG X zC13 (t_lengthOf X hr fun y => t_cnS X zC13 (by omega) fun h' X' => ih (i + 1) h' X' (by omega) (by omega)))
  refine B_X3_lengths_0 C Rt (t_f0 X (t_wcG X hr fun c f t R => t_ccP X zC13 ?_ fun h1 X1 => key 1001 0 h1 X1 (by omega) (by omega)))
  have := R.2.2.2.1
  omega
theorem k_X3_front (X : zX K ad sw rw T h) {r : Nat} (hr : zV r) : zm_Ct K M_X3_front [.ref (ad 21), .ref (ad r), .ref (ad 1)] h (poX K ad sw rw T) := by
  refine zm_meet (by decide) (Nat.le_of_ble_eq_true rfl) ?_
  intro E C Rt _
  have k95 : ∀ (m i : Nat) (h : zm_H), zX K ad sw rw T h → i ≤ 1000 → 1000 < m + i → zm_Go E 0 0 95 [(0, .ref (ad 21)), (1, .ref (ad r)), (2, .ref (ad 1)), (3, .int (nI i))] [] h := by
    intro m
    induction m with
    | zero => intro i h X h1 h2; omega
    | succ m ih =>
      intro i h X h1 h2
      refine B_X3_front_95 C Rt (Nat.le_refl 0) (Nat.le_refl 0) (t_wcG X hr fun c f t R => ⟨fun _ => ⟨rfl, X⟩, fun g => ?_⟩)
      have g1 := R.2.2.2.1
      have g2 := zlt (by omega) g
      rw [nI_add]
      exact t_f0 X (t_cnG X zC13 (t_cnL X zC13 (by omega) fun x => t_wbG X hr (t_wsG X hr (t_wsL X hr (by omega) fun s => t_f1 X (t_cnG X zC16 (t_cnL X zC16 (by omega) fun y => t_rowAll X hr fun h' X' => ih (i + 1) h' X' (by omega) (by omega)))))))
  have k24 : ∀ (m i : Nat) (h : zm_H), zX K ad sw rw T h → i ≤ 1000 → 1000 < m + i → zm_Go E 0 0 24 [(0, .ref (ad 21)), (1, .ref (ad r)), (2, .ref (ad 1)), (3, .int (nI i))] [] h := by
    intro m
    induction m with
    | zero => intro i h X h1 h2; omega
    | succ m ih =>
      intro i h X h1 h2
      refine B_X3_front_24 C Rt (Nat.le_refl 0) (Nat.le_refl 0) (t_wcG X hr fun c f t R => ⟨fun _ => t_f0 X ⟨t_frc X, t_cv (k_X3_putCode X zC13) fun h1 X1 => t_f1 X1 ⟨t_frc X1, t_cv (k_X3_putCode X1 zC16) fun h2 X2 => k95 1001 0 h2 X2 (by omega) (by omega)⟩⟩, fun g => ?_⟩)
      have g1 := R.2.2.2.1
      have g2 := zlt (by omega) g
      rw [nI_add]
      exact t_common X hr fun y => t_f0 X (t_cnG X zC13 (t_cnS X zC13 (by omega) fun h3 X3 => t_f1 X3 (t_cnG X3 zC16 (t_lengthOf X3 hr fun z => t_cnS X3 zC16 (by omega) fun h' X' => ih (i + 1) h' X' (by omega) (by omega)))))
  refine B_X3_front_0 C Rt (t_f0 X (t_wcG X hr fun c f t R => t_ccP X zC13 ?_ fun h1 X1 => t_f1 X1 (t_wcG X1 hr fun c2 f2 t2 R2 => t_ccP X1 zC16 ?_ fun h2 X2 => k24 1001 0 h2 X2 (by omega) (by omega))))
  · have := R.2.2.2.1
    omega
  · have := R2.2.2.2.1
    omega
theorem k_X3_dictionary (X : zX K ad sw rw T h) {r : Nat} (hr : zV r) : zm_Ct K M_X3_dictionary [.ref (ad 21), .ref (ad r), .ref (ad 1)] h (poX K ad sw rw T) := by
  refine zm_meet (by decide) (Nat.le_of_ble_eq_true rfl) ?_
  intro E C Rt _
  have k67 : ∀ (m i : Nat) (h : zm_H), zX K ad sw rw T h → i ≤ 1000 → 1000 < m + i → zm_Go E 0 0 67 [(0, .ref (ad 21)), (1, .ref (ad r)), (2, .ref (ad 1)), (3, .int (nI i))] [] h := by
    intro m
    induction m with
    | zero => intro i h X h1 h2; omega
    | succ m ih =>
      intro i h X h1 h2
      refine B_X3_dictionary_67 C Rt (Nat.le_refl 0) (Nat.le_refl 0) (t_f3 X (t_xcG X fun c hc _ => ⟨fun _ => t_f3 X (t_xcG X fun c2 hc2 _ => t_bitsOf fun w => t_put X zW1 fun h1 X1 => t_f2 X1 ⟨t_rrc X1, t_cv (k_X6_writeOn X1 zW1) fun h2 X2 => ⟨rfl, X2⟩⟩), fun g => ?_⟩))
      have g2 := zlt (by omega) g
      rw [nI_add]
      exact t_f3 X (t_xfG X (t_xfL X (by omega) fun y hy => ⟨t_frc X, t_cv (k_X3_putText X hr (by omega)) fun h' X' => ih (i + 1) h' X' (by omega) (by omega)⟩))
  have k20 : ∀ (m i : Nat) (h : zm_H), zX K ad sw rw T h → i ≤ 1000 → 1000 < m + i → zm_Go E 0 0 20 [(0, .ref (ad 21)), (1, .ref (ad r)), (2, .ref (ad 1)), (3, .int (nI i))] [] h := by
    intro m
    induction m with
    | zero => intro i h X h1 h2; omega
    | succ m ih =>
      intro i h X h1 h2
      refine B_X3_dictionary_20 C Rt (Nat.le_refl 0) (Nat.le_refl 0) (t_wcG X hr fun c f t R => ⟨fun _ => t_f3 X (t_xcG X fun c2 hc2 _ => t_putVarint X zW1 fun h1 X1 => k67 1001 0 h1 X1 (by omega) (by omega)), fun g => ?_⟩)
      have g1 := R.2.2.2.1
      have g2 := zlt (by omega) g
      rw [nI_add]
      refine t_f2 X (t_rnG X (t_f3 X ⟨t_xrc X, t_ci (k_X4_numberOf X R hr g2) fun y h2 X2 => ?_⟩))
      obtain ⟨c2, f2, -, hx, -⟩ := X2.runs
      exact t_rnS X2 (by omega) hx fun h' X' _ => ih (i + 1) h' X' (by omega) (by omega)
  refine B_X3_dictionary_0 C Rt (Nat.le_refl 0) (Nat.le_refl 0) (t_f3 X ⟨t_xrc X, t_cv (k_X4_empty X) fun h1 X1 => t_f2 X1 (t_wcG X1 hr fun c f t R => t_rcP X1 R.2.2.2.1 fun h2 X2 _ => k20 1001 0 h2 X2 (by omega) (by omega))⟩)
end ZR8
