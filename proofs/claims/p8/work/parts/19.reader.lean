section ZR9
variable {K : zm_K} {ad : Nat → Nat} {sw rw : Bool} {T : Nat} {h : zm_H}
theorem zX.fr (X : zX K ad sw rw T h) : h (ad 27) = some (.inr (2, [.ref (ad 28), .ref (ad 13), .ref (ad 16), .ref (ad 19), .ref (ad 30), .ref (ad 31)])) := by
  obtain ⟨_, h1, rfl⟩ := X.2 27 (by decide)
  exact h1
theorem t_grc (X : zX K ad sw rw T h) : zm_rc h (ad 27) 2 := by simp only [zm_rc, X.fr]
theorem t_g0 (X : zX K ad sw rw T h) {F : Nat → Prop} (hF : F (ad 28)) : zm_gR h (ad 27) 2 0 F := by
  simp only [zm_gR, X.fr, List.getElem?_cons_zero, List.getElem?_cons_succ, true_and]
  exact hF
theorem t_g1 (X : zX K ad sw rw T h) {F : Nat → Prop} (hF : F (ad 13)) : zm_gR h (ad 27) 2 1 F := by
  simp only [zm_gR, X.fr, List.getElem?_cons_zero, List.getElem?_cons_succ, true_and]
  exact hF
theorem t_g2 (X : zX K ad sw rw T h) {F : Nat → Prop} (hF : F (ad 16)) : zm_gR h (ad 27) 2 2 F := by
  simp only [zm_gR, X.fr, List.getElem?_cons_zero, List.getElem?_cons_succ, true_and]
  exact hF
theorem t_g3 (X : zX K ad sw rw T h) {F : Nat → Prop} (hF : F (ad 19)) : zm_gR h (ad 27) 2 3 F := by
  simp only [zm_gR, X.fr, List.getElem?_cons_zero, List.getElem?_cons_succ, true_and]
  exact hF
theorem t_g4 (X : zX K ad sw rw T h) {F : Nat → Prop} (hF : F (ad 30)) : zm_gR h (ad 27) 2 4 F := by
  simp only [zm_gR, X.fr, List.getElem?_cons_zero, List.getElem?_cons_succ, true_and]
  exact hF
theorem t_g5 (X : zX K ad sw rw T h) {F : Nat → Prop} (hF : F (ad 31)) : zm_gR h (ad 27) 2 5 F := by
  simp only [zm_gR, X.fr, List.getElem?_cons_zero, List.getElem?_cons_succ, true_and]
  exact hF
theorem t_30L (X : zX K ad sw rw T h) {i : Nat} (hi : i < 1000) {F : Int32 → Prop} (hF : ∀ y, F y) : zm_ld K 1 h (ad 30) (nI i) F := by
  obtain ⟨_, h1, f, rfl⟩ := X.2 30 (by decide)
  unfold zI at h1
  simp only [zm_ld, h1, true_and]
  exact ⟨vp_in_nI hi (by decide), hF _⟩
theorem t_31L (X : zX K ad sw rw T h) {i : Nat} (hi : i < 1000) {F : Int32 → Prop} (hF : ∀ y, F y) : zm_ld K 1 h (ad 31) (nI i) F := by
  obtain ⟨_, h1, f, rfl⟩ := X.2 31 (by decide)
  unfold zI at h1
  simp only [zm_ld, h1, true_and]
  exact ⟨vp_in_nI hi (by decide), hF _⟩
theorem t_30S (X : zX K ad sw rw T h) {i : Nat} (hi : i < 1000) {x : Int32} {F : zm_H → Prop} (hF : ∀ h', zX K ad sw rw T h' → F h') : zm_sI K h (ad 30) (nI i) x F := by
  obtain ⟨_, h1, f, rfl⟩ := X.2 30 (by decide)
  unfold zI at h1
  simp only [zm_sI, h1, true_and]
  exact ⟨vp_in_nI hi (by decide), hF _ (X.set 30 (by decide) ⟨_, rfl⟩)⟩
theorem t_31S (X : zX K ad sw rw T h) {i : Nat} (hi : i < 1000) {x : Int32} {F : zm_H → Prop} (hF : ∀ h', zX K ad sw rw T h' → F h') : zm_sI K h (ad 31) (nI i) x F := by
  obtain ⟨_, h1, f, rfl⟩ := X.2 31 (by decide)
  unfold zI at h1
  simp only [zm_sI, h1, true_and]
  exact ⟨vp_in_nI hi (by decide), hF _ (X.set 31 (by decide) ⟨_, rfl⟩)⟩
theorem t_scG (X : zX K ad sw rw T h) {F : Nat → Prop} (hF : ∀ j, (j = 4 ∨ j = 6 ∨ j = 29) → F (ad j)) : zm_gR h (ad 28) 7 0 F := by
  obtain ⟨_, h1, j, at9, lim, flt, hj, rfl⟩ := X.2 28 (by decide)
  simp only [zm_gR, h1, List.getElem?_cons_zero, List.getElem?_cons_succ, true_and]
  exact hF j hj
theorem t_app (X : zX K ad sw rw T h) {r j : Nat} (hr : zV r) (hj : j = 4 ∨ j = 6 ∨ j = 29) {x1 x3 x4 : Int32} {F : zm_H → Prop} (hF : ∀ h', zX K ad sw rw T h' → F h') : zm_rc h (ad r) 5 ∧ zm_cv K M_X5_append [.ref (ad r), .int x1, .ref (ad j), .int x3, .int x4] h F := by
  have hjr : j ≠ r + 1 := by rcases hr with rfl | rfl <;> rcases hj with rfl | rfl | rfl <;> decide
  rcases hj with rfl | rfl | rfl
  · obtain ⟨_, h2, t, rfl⟩ := X.2 4 (by decide)
    exact t_append X hr (by decide) hjr h2 (by decide) hF
  · obtain ⟨_, h2, t, rfl⟩ := X.2 6 (by decide)
    exact t_append X hr (by decide) hjr h2 (by decide) hF
  · obtain ⟨_, h2, t, rfl⟩ := X.2 29 (by decide)
    exact t_append X hr (by decide) hjr h2 (by decide) hF
theorem k_X2_isLength {x : Int64} : zm_Ct K M_X2_isLength [.long x] h (fun v h' => h' = h ∧ ∃ y : Int32, v = some (.int y)) := by
  refine zm_meet (by decide) (Nat.le_of_ble_eq_true rfl) ?_
  intro E C Rt _
  exact B_X2_isLength_0 C Rt (Nat.le_refl 0) (Nat.le_refl 0) ⟨fun _ => ⟨by decide, rfl, _, rfl⟩, fun _ => ⟨fun _ => ⟨by decide, rfl, _, rfl⟩, fun _ => ⟨by decide, rfl, _, rfl⟩⟩⟩
theorem t_isLength {x : Int64} {F : Int32 → zm_H → Prop} (hF : ∀ y, F y h) : zm_ci K M_X2_isLength [.long x] h F := ⟨_, k_X2_isLength, fun _ _ q => by
  obtain ⟨rfl, y, rfl⟩ := q
  exact ⟨y, rfl, hF y⟩⟩
theorem k_X2_fault (X : zX K ad sw rw T h) : zm_Ct K M_X2_fault [.ref (ad 27)] h (fun v h' => h' = h ∧ ∃ y : Int32, v = some (.int y)) := by
  refine zm_meet (by decide) (Nat.le_of_ble_eq_true rfl) ?_
  intro E C Rt _
  exact B_X2_fault_0 C Rt (Nat.le_refl 0) (Nat.le_refl 0) (t_g0 X (t_sfltG X fun y => ⟨rfl, y, rfl⟩))
theorem k_X2_textLength (X : zX K ad sw rw T h) : zm_Ct K M_X2_textLength [.ref (ad 27)] h (poXi K ad sw rw T) := by
  refine zm_meet (by decide) (Nat.le_of_ble_eq_true rfl) ?_
  intro E C Rt _
  exact B_X2_textLength_0 C Rt (Nat.le_refl 0) (Nat.le_refl 0) (t_g0 X (t_varint X fun v h1 X1 => t_isLength fun b => ⟨fun _ => t_g0 X1 (t_failed X1 fun c => ⟨fun _ => ⟨⟨_, rfl⟩, X1⟩, fun _ => ⟨⟨_, rfl⟩, X1⟩⟩), fun _ => t_g0 X1 (t_fail X1 fun h2 X2 => t_g0 X2 (t_failed X2 fun c => ⟨fun _ => ⟨⟨_, rfl⟩, X2⟩, fun _ => ⟨⟨_, rfl⟩, X2⟩⟩))⟩))
theorem k_X2_takeText (X : zX K ad sw rw T h) {r : Nat} (hr : zV r) {x1 x2 : Int32} : zm_Ct K M_X2_takeText [.ref (ad 27), .ref (ad r), .int x1, .int x2] h (poX K ad sw rw T) := by
  refine zm_meet (by decide) (Nat.le_of_ble_eq_true rfl) ?_
  intro E C Rt _
  exact B_X2_takeText_0 C Rt (Nat.le_refl 0) (Nat.le_refl 0) (t_holdsMore X hr fun b => ⟨fun _ => t_g0 X (t_holds X fun y h2 X2 => ⟨fun _ => t_g0 X2 (t_scG X2 fun j hj => t_g0 X2 (t_satG X2 fun z => t_app X2 hr hj fun h3 X3 => t_g0 X3 (t_satG X3 fun w => t_satP X3 fun h4 X4 => ⟨rfl, X4⟩))), fun _ => ⟨rfl, X2⟩⟩), fun _ => t_g0 X (t_fail X fun h5 X5 => t_g0 X5 (t_holds X5 fun y h2 X2 => ⟨fun _ => t_g0 X2 (t_scG X2 fun j hj => t_g0 X2 (t_satG X2 fun z => t_app X2 hr hj fun h3 X3 => t_g0 X3 (t_satG X3 fun w => t_satP X3 fun h4 X4 => ⟨rfl, X4⟩))), fun _ => ⟨rfl, X2⟩⟩))⟩)
theorem k_X2_enterText (X : zX K ad sw rw T h) {i : Nat} (hi : i < 1000) : zm_Ct K M_X2_enterText [.ref (ad 27), .int (nI i)] h (poX K ad sw rw T) := by
  refine zm_meet (by decide) (Nat.le_of_ble_eq_true rfl) ?_
  intro E C Rt _
  exact B_X2_enterText_0 C Rt (Nat.le_refl 0) (Nat.le_refl 0) ⟨t_grc X, t_ci (k_X2_textLength X) fun y h1 X1 => t_g0 X1 (t_holds X1 fun b h2 X2 => ⟨fun _ => t_g4 X2 (t_g0 X2 (t_satG X2 fun a => t_30S X2 hi fun h3 X3 => t_g5 X3 (t_31S X3 hi fun h4 X4 => t_g0 X4 (t_satG X4 fun c => t_satP X4 fun h5 X5 => ⟨rfl, X5⟩)))), fun _ => ⟨rfl, X2⟩⟩)⟩
theorem k_X2_takeCode (X : zX K ad sw rw T h) {k : Nat} (hk : zC k) {x : Int32} : zm_Ct K M_X2_takeCode [.ref (ad 27), .ref (ad k), .int x] h (poX K ad sw rw T) := by
  refine zm_meet (by decide) (Nat.le_of_ble_eq_true rfl) ?_
  intro E C Rt _
  exact B_X2_takeCode_0 C Rt (Nat.le_refl 0) (Nat.le_refl 0) (t_g0 X (t_varint X fun v h1 X1 => t_g0 X1 (t_holds X1 fun b h2 X2 => ⟨fun _ => t_g0 X2 (t_slimG X2 fun l => t_g0 X2 (t_g0 X2 (t_satG X2 fun a => t_slimP X2 fun h3 X3 => t_g0 X3 ⟨t_crc X3 hk, t_cv (k_X1_readFrom X3 hk) fun h4 X4 => t_g0 X4 (t_slimP X4 fun h5 X5 => t_ccG X5 hk fun c hc => ⟨fun _ => ⟨rfl, X5⟩, fun _ => t_g0 X5 (t_fail X5 fun h6 X6 => ⟨rfl, X6⟩)⟩)⟩))), fun _ => ⟨rfl, X2⟩⟩)))
theorem k_X2_copyText (X : zX K ad sw rw T h) {r d : Nat} (hr : zV r) (hd : d ≤ 1000) {x : Int64} : zm_Ct K M_X2_copyText [.ref (ad 27), .ref (ad r), .long x, .long (lN d)] h (poX K ad sw rw T) := by
  refine zm_meet (by decide) (Nat.le_of_ble_eq_true rfl) ?_
  intro E C Rt _
  have bad : zm_gR h (ad 27) 2 0 fun v12 => zm_rc h v12 7 ∧ zm_cv K M_X7_fail [.ref v12, .int (nI 7)] h fun h5 => poX K ad sw rw T none h5 := t_g0 X (t_fail X fun h1 X1 => ⟨rfl, X1⟩)
  refine B_X2_copyText_0 C Rt (Nat.le_refl 0) (Nat.le_refl 0) ⟨fun _ => bad, fun g1 => ⟨fun g2 => ?_, fun _ => bad⟩⟩
  have g3 : ¬ x < lN 0 := fun z => g1 ((lg_cmp_lt _ _).mpr z)
  obtain ⟨e, he, rfl⟩ := pk_lOf g3
  have g4 := (pk_lLT he (by omega)).mp ((lg_cmp_lt _ _).mp g2)
  rw [lN_i]
  exact t_g5 X (t_31L X (by omega) fun y => t_holdsMore X hr fun b => ⟨fun _ => t_g0 X (t_scG X fun j hj => t_g4 X (t_30L X (by omega) fun y1 => t_g5 X (t_31L X (by omega) fun y2 => t_app X hr hj fun h3 X3 => ⟨rfl, X3⟩))), fun _ => bad⟩)
/-! behind a fault nothing is told any more -/
theorem z_nextByte (X : zX K ad sw rw T h) (Z : zFt ad h) {F : Int32 → zm_H → Prop} (hF : ∀ y h', zX K ad sw rw T h' → zFt ad h' → F y h') : zm_rc h (ad 28) 7 ∧ zm_ci K M_X7_nextByte [.ref (ad 28)] h F := by
  refine ⟨t_src X, ?_⟩
  obtain ⟨j, at9, lim, flt, n, t, hj, j32, ne, hn, h1, h2, hid, st⟩ := X.scan
  have nz : ¬ flt = 0 := by
    obtain ⟨a, b, c, d, nz, e⟩ := Z
    rw [h1] at e
    simp at e
    rw [e.2.2.2]
    exact nz
  have M : zm_Ct K M_X7_nextByte [.ref (ad 28)] (zhS h (ad 28) (ad j) at9 lim flt) (fun v h' => (∃ y : Int32, v = some (.int y)) ∧ ∃ a, h' = zhS h (ad 28) (ad j) a lim flt) := by
    refine zm_meet (by decide) (Nat.le_of_ble_eq_true rfl) ?_
    intro E C Rt _
    refine B_X7_nextByte_0 C Rt (Nat.le_refl 0) (Nat.le_refl 0) ?_
    have hrc : zm_rc (zhS h (ad 28) (ad j) at9 lim flt) (ad 28) 7 := by simp only [zm_rc, zhS_s]
    have hc : zhS h (ad 28) (ad j) at9 lim flt (ad j) = some (.inl (K.2.2 0, n, .inl (fun i => sb_b (t i)))) := (zhS_q ne).trans h2
    have ff : zm_cv K M_X7_fail [.ref (ad 28), .int (nI 1)] (zhS h (ad 28) (ad j) at9 lim flt) (fun h1 => (∃ y : Int32, some (Value.int (nI 0)) = some (Value.int y)) ∧ ∃ a, h1 = zhS h (ad 28) (ad j) a lim flt) := by
      refine ⟨_, k_X7_fail, fun v h' z => ?_⟩
      obtain ⟨rfl, rfl⟩ := z
      exact ⟨rfl, ⟨_, rfl⟩, at9, by rw [if_neg nz]⟩
    simp only [zm_gI, zhS_s, List.getElem?_cons_zero, List.getElem?_cons_succ, true_and]
    refine ⟨fun q => ⟨hrc, ff⟩, fun q => ⟨fun q2 => ⟨hrc, ff⟩, fun q2 => ?_⟩⟩
    simp only [zm_gR, zm_al, zm_ld, zm_pf, zhS_s, hc, List.getElem?_cons_zero, List.getElem?_cons_succ, List.set_cons_zero, List.set_cons_succ, List.length_cons, List.length_nil, true_and]
    refine ⟨fun q3 => ?_, fun q3 => ⟨hrc, ff⟩⟩
    obtain ⟨i, hi, e⟩ := zix q q3 (by omega)
    subst e
    exact ⟨vp_in_nI hi (by omega), by decide, ⟨_, rfl⟩, _, zm_set_set⟩
  rw [hid] at M
  refine ⟨_, M, fun v h' q => ?_⟩
  obtain ⟨⟨y, rfl⟩, a2, rfl⟩ := q
  exact ⟨y, rfl, hF y _ (st _ _ _) ⟨_, _, _, _, nz, zhS_s⟩⟩
theorem z_expectEnd (X : zX K ad sw rw T h) (Z : zFt ad h) {F : zm_H → Prop} (hF : ∀ h', zX K ad sw rw T h' → zFt ad h' → F h') : zm_rc h (ad 28) 7 ∧ zm_cv K M_X7_expectEnd [.ref (ad 28)] h F := by
  refine ⟨t_src X, ?_⟩
  obtain ⟨j, at9, lim, flt, n, t, hj, j32, ne, hn, h1, h2, hid, st⟩ := X.scan
  have nz : ¬ flt = 0 := by
    obtain ⟨a, b, c, d, nz, e⟩ := Z
    rw [h1] at e
    simp at e
    rw [e.2.2.2]
    exact nz
  have M : zm_Ct K M_X7_expectEnd [.ref (ad 28)] (zhS h (ad 28) (ad j) at9 lim flt) (fun v h' => v = none ∧ h' = zhS h (ad 28) (ad j) at9 lim flt) := by
    refine zm_meet (by decide) (Nat.le_of_ble_eq_true rfl) ?_
    intro E C Rt _
    refine B_X7_expectEnd_0 C Rt (Nat.le_refl 0) (Nat.le_refl 0) ?_
    have hrc : zm_rc (zhS h (ad 28) (ad j) at9 lim flt) (ad 28) 7 := by simp only [zm_rc, zhS_s]
    have ff : zm_cv K M_X7_fail [.ref (ad 28), .int (nI 6)] (zhS h (ad 28) (ad j) at9 lim flt) (fun h1 => h1 = zhS h (ad 28) (ad j) at9 lim flt) := by
      refine ⟨_, k_X7_fail, fun v h' z => ?_⟩
      obtain ⟨rfl, rfl⟩ := z
      exact ⟨rfl, by rw [if_neg nz]⟩
    simp only [zm_gI, zhS_s, List.getElem?_cons_zero, List.getElem?_cons_succ, true_and]
    exact ⟨fun q => trivial, fun q => ⟨hrc, ff⟩⟩
  rw [hid] at M
  refine ⟨_, M, fun v h' q => ?_⟩
  obtain ⟨rfl, rfl⟩ := q
  exact ⟨rfl, hF _ X Z⟩
theorem z_readFrom (X : zX K ad sw rw T h) (Z : zFt ad h) {x1 x2 : Int32} : zm_Ct K M_X6_readFrom [.ref (ad 19), .ref (ad 28), .int x1, .int x2] h (fun v h' => v = none ∧ zX K ad sw rw T h' ∧ zFt ad h') := by
  refine zm_meet (by decide) (Nat.le_of_ble_eq_true rfl) ?_
  intro E C Rt _
  obtain ⟨c, f, hc, hx, h2, st, -⟩ := X.runs
  have hx' : h (ad 19) = _ := hx
  refine B_X6_readFrom_0 C Rt ?_
  simp only [zm_pf, hx', List.set_cons_zero, List.set_cons_succ, List.length_cons, List.length_nil, true_and]
  refine ⟨by decide, ?_⟩
  have X' := st 0 (by omega)
  have Z' : zFt ad (zm_set h (ad 19) (.inr (6, [.ref (ad 20), .int (nI 0)]))) := by
    obtain ⟨a, b, c, d, nz, e⟩ := Z
    exact ⟨a, b, c, d, nz, (zm_set_n (X.ne (by decide) (by decide) (by decide))).trans e⟩
  exact B_X6_readFrom_8 C Rt (Nat.le_refl 0) (Nat.le_refl 0) ⟨fun _ => ⟨rfl, X', Z'⟩, fun _ => t_rcG X' fun c hc _ => ⟨fun _ => ⟨rfl, X', Z'⟩, fun _ => u_failed X' Z' ⟨fun _ => ⟨rfl, X', Z'⟩, fun z => absurd z (by decide)⟩⟩⟩
end ZR9
