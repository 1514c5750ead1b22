section ZR7
variable {K : zm_K} {ad : Nat → Nat} {sw rw : Bool} {T : Nat} {h : zm_H}
/-! a Row that is read -/
theorem t_wrc (X : zX K ad sw rw T h) {r : Nat} (hr : zV r) : zm_rc h (ad r) 5 := by
  obtain ⟨c, f, t, R⟩ := X.row hr
  simp only [zm_rc, R.1]
theorem t_wcG (X : zX K ad sw rw T h) {r : Nat} (hr : zV r) {F : Int32 → Prop} (hF : ∀ c f t, zR K h (ad r) (ad (r + 1)) (ad (r + 2)) c f t → F (nI c)) : zm_gI h (ad r) 5 2 F := by
  obtain ⟨c, f, t, R⟩ := X.row hr
  simp only [zm_gI, R.1, List.getElem?_cons_zero, List.getElem?_cons_succ, true_and]
  exact hF c f t R
theorem t_wbG (X : zX K ad sw rw T h) {r : Nat} (hr : zV r) {F : Nat → Prop} (hF : F (ad (r + 1))) : zm_gR h (ad r) 5 0 F := by
  obtain ⟨c, f, t, R⟩ := X.row hr
  simp only [zm_gR, R.1, List.getElem?_cons_zero, List.getElem?_cons_succ, true_and]
  exact hF
theorem t_wsG (X : zX K ad sw rw T h) {r : Nat} (hr : zV r) {F : Nat → Prop} (hF : F (ad (r + 2))) : zm_gR h (ad r) 5 1 F := by
  obtain ⟨c, f, t, R⟩ := X.row hr
  simp only [zm_gR, R.1, List.getElem?_cons_zero, List.getElem?_cons_succ, true_and]
  exact hF
theorem t_wsL (X : zX K ad sw rw T h) {r i : Nat} (hr : zV r) (hi : i < 1001) {F : Int32 → Prop} (hF : ∀ y, F y) : zm_ld K 1 h (ad (r + 2)) (nI i) F := by
  obtain ⟨c, f, t, -, -, h3, -⟩ := X.row hr
  unfold zI at h3
  simp only [zm_ld, h3, true_and]
  exact ⟨vp_in_nI hi (by decide), hF _⟩
theorem zX.cells (X : zX K ad sw rw T h) {r : Nat} (hr : zV r) : ∃ t, h (ad (r + 1)) = some (zB K 20000 t) := by
  obtain ⟨c, f, t, -, h2, -⟩ := X.row hr
  exact ⟨t, h2⟩
theorem t_lengthOf (X : zX K ad sw rw T h) {r : Nat} (hr : zV r) {x : Int32} {F : Int32 → zm_H → Prop} (hF : ∀ y, F y h) : zm_rc h (ad r) 5 ∧ zm_ci K M_X5_lengthOf [.ref (ad r), .int x] h F := by
  obtain ⟨c, f, t, R⟩ := X.row hr
  refine ⟨t_wrc X hr, _, k_X5_lengthOf R, fun v h' q => ?_⟩
  obtain ⟨rfl, ⟨j, a, b, rfl⟩ | ⟨_, rfl⟩⟩ := q
  · exact ⟨_, rfl, hF _⟩
  · exact ⟨_, rfl, hF _⟩
theorem t_total (X : zX K ad sw rw T h) {r : Nat} (hr : zV r) {F : Int32 → zm_H → Prop} (hF : ∀ y, F y h) : zm_rc h (ad r) 5 ∧ zm_ci K M_X5_total [.ref (ad r)] h F := by
  obtain ⟨c, f, t, R⟩ := X.row hr
  refine ⟨t_wrc X hr, _, k_X5_total R, fun v h' q => ?_⟩
  obtain ⟨rfl, rfl⟩ := q
  exact ⟨_, rfl, hF _⟩
theorem t_common (X : zX K ad sw rw T h) {r : Nat} (hr : zV r) {x : Int32} {F : Int32 → zm_H → Prop} (hF : ∀ y, F y h) : zm_rc h (ad r) 5 ∧ zm_ci K M_X5_commonWithLast [.ref (ad r), .int x] h F := by
  obtain ⟨c, f, t, R⟩ := X.row hr
  refine ⟨t_wrc X hr, _, k_X5_commonWithLast R, fun v h' q => ?_⟩
  obtain ⟨rfl, y, rfl⟩ := q
  exact ⟨_, rfl, hF _⟩
theorem t_holdsMore (X : zX K ad sw rw T h) {r : Nat} (hr : zV r) {x : Int32} {F : Int32 → zm_H → Prop} (hF : ∀ y, F y h) : zm_rc h (ad r) 5 ∧ zm_ci K M_X5_holdsMore [.ref (ad r), .int x] h F := by
  obtain ⟨c, f, t, R⟩ := X.row hr
  refine ⟨t_wrc X hr, _, k_X5_holdsMore R, fun v h' q => ?_⟩
  obtain ⟨rfl, ⟨_, _, rfl⟩ | ⟨_, rfl⟩⟩ := q
  · exact ⟨_, rfl, hF _⟩
  · exact ⟨_, rfl, hF _⟩
/-! the Lexicon: at 22 -/
theorem zX.lex (X : zX K ad sw rw T h) : ∃ (c : Nat) (f g : Nat → Nat), c ≤ 1000 ∧ (∀ j, f j ≤ 1000) ∧ (∀ j, g j ≤ 1000) ∧ h (ad 22) = some (.inr (4, [.ref (ad 23), .ref (ad 24), .int (nI c)])) ∧ h (ad 23) = some (zI K 2048 (fun j => nI (f j))) ∧ h (ad 24) = some (zI K 1000 (fun j => nI (g j))) := by
  obtain ⟨_, h1, c, hc, rfl⟩ := X.2 22 (by decide)
  obtain ⟨_, h2, f, hf, rfl⟩ := X.2 23 (by decide)
  obtain ⟨_, h3, g, hg, rfl⟩ := X.2 24 (by decide)
  exact ⟨c, f, g, hc, hf, hg, h1, h2, h3⟩
theorem t_xrc (X : zX K ad sw rw T h) : zm_rc h (ad 22) 4 := by
  obtain ⟨c, f, g, hc, hf, hg, h1, -⟩ := X.lex
  simp only [zm_rc, h1]
theorem t_xcG (X : zX K ad sw rw T h) {F : Int32 → Prop} (hF : ∀ c, c ≤ 1000 → h (ad 22) = some (.inr (4, [.ref (ad 23), .ref (ad 24), .int (nI c)])) → F (nI c)) : zm_gI h (ad 22) 4 2 F := by
  obtain ⟨c, f, g, hc, hf, hg, h1, -⟩ := X.lex
  simp only [zm_gI, h1, List.getElem?_cons_zero, List.getElem?_cons_succ, true_and]
  exact hF c hc h1
theorem t_xcP (X : zX K ad sw rw T h) {c : Nat} (hc : c ≤ 1000) {F : zm_H → Prop} (hF : ∀ h', zX K ad sw rw T h' → h' (ad 22) = some (.inr (4, [.ref (ad 23), .ref (ad 24), .int (nI c)])) → F h') : zm_pf h (ad 22) 4 2 (.int (nI c)) F := by
  obtain ⟨_, f, g, -, hf, hg, h1, -⟩ := X.lex
  simp only [zm_pf, h1, List.set_cons_zero, List.set_cons_succ, List.length_cons, List.length_nil, true_and]
  exact ⟨by decide, hF _ (X.set 22 (by decide) ⟨_, hc, rfl⟩) (zm_set_s _ _ _)⟩
theorem t_xsG (X : zX K ad sw rw T h) {F : Nat → Prop} (hF : F (ad 23)) : zm_gR h (ad 22) 4 0 F := by
  obtain ⟨c, f, g, hc, hf, hg, h1, -⟩ := X.lex
  simp only [zm_gR, h1, List.getElem?_cons_zero, List.getElem?_cons_succ, true_and]
  exact hF
theorem t_xfG (X : zX K ad sw rw T h) {F : Nat → Prop} (hF : F (ad 24)) : zm_gR h (ad 22) 4 1 F := by
  obtain ⟨c, f, g, hc, hf, hg, h1, -⟩ := X.lex
  simp only [zm_gR, h1, List.getElem?_cons_zero, List.getElem?_cons_succ, true_and]
  exact hF
theorem t_xsL (X : zX K ad sw rw T h) {i : Nat} (hi : i < 2048) {F : Int32 → Prop} (hF : ∀ y, y ≤ 1000 → F (nI y)) : zm_ld K 1 h (ad 23) (nI i) F := by
  obtain ⟨c, f, g, hc, hf, hg, h1, h2, h3⟩ := X.lex
  unfold zI at h2
  simp only [zm_ld, h2, true_and]
  exact ⟨vp_in_nI hi (by decide), hF _ (hf _)⟩
theorem t_xfL (X : zX K ad sw rw T h) {i : Nat} (hi : i < 1000) {F : Int32 → Prop} (hF : ∀ y, y ≤ 1000 → F (nI y)) : zm_ld K 1 h (ad 24) (nI i) F := by
  obtain ⟨c, f, g, hc, hf, hg, h1, h2, h3⟩ := X.lex
  unfold zI at h3
  simp only [zm_ld, h3, true_and]
  exact ⟨vp_in_nI hi (by decide), hF _ (hg _)⟩
theorem zup_nI (f : Nat → Nat) (k y : Nat) : upd (fun j => nI (f j)) k (nI y) = fun j => nI (zup f k y j) := by
  funext j
  by_cases hj : j = k
  · simp [upd, zup, hj]
  · simp [upd, zup, hj]
theorem zup_le {f : Nat → Nat} {k y m : Nat} (hf : ∀ j, f j ≤ m) (hy : y ≤ m) (j : Nat) : zup f k y j ≤ m := by
  unfold zup
  split
  · exact hy
  · exact hf j
theorem t_xsS (X : zX K ad sw rw T h) {i y : Nat} (hi : i < 2048) (hy : y ≤ 1000) {F : zm_H → Prop} (hF : ∀ h', zX K ad sw rw T h' → h' (ad 22) = h (ad 22) → F h') : zm_sI K h (ad 23) (nI i) (nI y) F := by
  obtain ⟨c, f, g, hc, hf, hg, h1, h2, h3⟩ := X.lex
  unfold zI at h2
  simp only [zm_sI, h2, true_and]
  refine ⟨vp_in_nI hi (by decide), hF _ (X.set 23 (by decide) ⟨zup f (nI i).toNatClampNeg y, zup_le hf hy, ?_⟩) (zm_set_n (X.ne (by decide) (by decide) (by decide)))⟩
  rw [zup_nI]
  rfl
theorem t_xfS (X : zX K ad sw rw T h) {i y : Nat} (hi : i < 1000) (hy : y ≤ 1000) {F : zm_H → Prop} (hF : ∀ h', zX K ad sw rw T h' → h' (ad 22) = h (ad 22) → F h') : zm_sI K h (ad 24) (nI i) (nI y) F := by
  obtain ⟨c, f, g, hc, hf, hg, h1, h2, h3⟩ := X.lex
  unfold zI at h3
  simp only [zm_sI, h3, true_and]
  refine ⟨vp_in_nI hi (by decide), hF _ (X.set 24 (by decide) ⟨zup g (nI i).toNatClampNeg y, zup_le hg hy, ?_⟩) (zm_set_n (X.ne (by decide) (by decide) (by decide)))⟩
  rw [zup_nI]
  rfl
theorem k_X4_empty (X : zX K ad sw rw T h) : zm_Ct K M_X4_empty [.ref (ad 22)] h (poX K ad sw rw T) := by
  refine zm_meet (by decide) (Nat.le_of_ble_eq_true rfl) ?_
  intro E C Rt _
  have key : ∀ (m i : Nat) (h : zm_H), zX K ad sw rw T h → i ≤ 2048 → 2048 < m + i → zm_Go E 0 0 7 [(0, .ref (ad 22)), (1, .int (nI i))] [] h := by
    intro m
    induction m with
    | zero => intro i h X h1 h2; omega
    | succ m ih =>
      intro i h X h1 h2
      refine B_X4_empty_7 C Rt (Nat.le_refl 0) (Nat.le_refl 0) ⟨fun _ => ⟨rfl, X⟩, fun g => ?_⟩
      have g2 := zlt (by omega) g
      rw [nI_add]
      exact t_xsG X (t_xsS X g2 (by omega) fun h' X' _ => ih (i + 1) h' X' (by omega) (by omega))
  exact B_X4_empty_0 C Rt (t_xcP X (Nat.zero_le _) fun h1 X1 _ => key 2049 0 h1 X1 (by omega) (by omega))
theorem k_X4_enter (X : zX K ad sw rw T h) {i j : Nat} (hi : i < 2048) (hj : j ≤ 1000) : zm_Ct K M_X4_enter [.ref (ad 22), .int (nI i), .int (nI j)] h (poXi K ad sw rw T) := by
  refine zm_meet (by decide) (Nat.le_of_ble_eq_true rfl) ?_
  intro E C Rt _
  refine B_X4_enter_0 C Rt (Nat.le_refl 0) (Nat.le_refl 0) (t_xcG X fun c hc hx => ⟨fun g => ?_, fun _ => ⟨⟨_, rfl⟩, X⟩⟩)
  have g2 := (nI_ltI (by omega) (by omega)).mp g
  have same : ∀ (h : zm_H) (c d : Nat), h (ad 22) = some (.inr (4, [.ref (ad 23), .ref (ad 24), .int (nI c)])) → h (ad 22) = some (.inr (4, [.ref (ad 23), .ref (ad 24), .int (nI d)])) → nI c = nI d := by
    intro h c d h1 h2
    rw [h1] at h2
    simpa using h2
  refine t_xfG X (t_xcG X fun c2 hc2 hx2 => ?_)
  rw [← same h c c2 hx hx2]
  refine t_xfS X g2 hj fun h1 X1 e1 => t_xcG X1 fun c3 hc3 hx3 => ?_
  rw [← same h1 c c3 (e1.trans hx) hx3, nI_add]
  refine t_xcP X1 (by omega) fun h2 X2 hx4 => t_xsG X2 (t_xcG X2 fun c5 hc5 hx5 => t_xsS X2 hi hc5 fun h3 X3 _ => t_xcG X3 fun c6 hc6 _ => ⟨⟨_, rfl⟩, X3⟩)
theorem k_X4_slotOf {r ca sa c j : Nat} {f t : Nat → Nat} (R : zR K h r ca sa c f t) (hj : j < c) : zm_Ct K M_X4_slotOf [.ref r, .int (nI j)] h (fun v h' => h' = h ∧ ∃ y, y < 2048 ∧ v = some (.int (nI y))) := by
  refine zm_meet (by decide) (Nat.le_of_ble_eq_true rfl) ?_
  intro E C Rt _
  obtain ⟨hr, hc, hs, hc1, hf⟩ := id R
  unfold zB at hc
  unfold zI at hs
  have hrc : zm_rc h r 5 := by simp only [zm_rc, hr]
  have f0 := hf j
  have f1 := hf (j + 1)
  have key : ∀ (m k : Nat) (x : Int32), k ≤ 20000 → 20000 - k < m → zm_Go E 0 0 11 [(0, .ref r), (1, .int (nI j)), (2, .int x), (3, .int (nI (f (j + 1)) - nI (f j))), (4, .int (nI k))] [] h := by
    intro m
    induction m with
    | zero => intro k x h1 h2; omega
    | succ m ih =>
      intro k x h1 h2
      refine B_X4_slotOf_11 C Rt (Nat.le_refl 0) (Nat.le_refl 0) ⟨fun _ => ⟨rfl, _, Nat.mod_lt _ (by decide), by rw [pk_and _ 11 (by decide)]⟩, fun g => ?_⟩
      rw [Int32.le_iff_toInt_le, zsubI (by omega) (by omega), nI_toInt (by omega)] at g
      have in1 : vp_in (nI j) 1001 := vp_in_nI (by omega) (by decide)
      have cl1 : (nI j).toNatClampNeg = j := nI_clamp (by omega)
      have in3 : vp_in (nI (f j + k)) 20000 := vp_in_nI (by omega) (by decide)
      simp only [zm_gR, zm_ld, hr, hc, hs, in1, cl1, nI_add, in3, List.getElem?_cons_zero, List.getElem?_cons_succ, true_and]
      exact ih (k + 1) _ (by omega) (by omega)
  refine B_X4_slotOf_0 C Rt (Nat.le_refl 0) (Nat.le_refl 0) ⟨hrc, _, k_X5_lengthOf R, fun v h' q => ?_⟩
  obtain ⟨e, q⟩ := q
  subst e
  rcases q with ⟨j', a, b, rfl⟩ | ⟨z, e⟩
  · have := (nI_eq (by omega) (by omega)).mp b
    subst this
    exact ⟨_, rfl, key 20001 0 _ (by omega) (by omega)⟩
  · exact absurd rfl (z j hj)
theorem k_X4_numberOf (X : zX K ad sw rw T h) {r c j : Nat} {f t : Nat → Nat} (R : zR K h (ad r) (ad (r + 1)) (ad (r + 2)) c f t) (hr : zV r) (hj : j < c) : zm_Ct K M_X4_numberOf [.ref (ad 22), .ref (ad r), .int (nI j)] h (poXi K ad sw rw T) := by
  refine zm_meet (by decide) (Nat.le_of_ble_eq_true rfl) ?_
  intro E C Rt _
  have hc1 := R.2.2.2.1
  have key : ∀ (m i s : Nat), i ≤ 2048 → 2048 < m + i → s < 2048 → zm_Go E 0 0 9 [(0, .ref (ad 22)), (1, .ref (ad r)), (2, .int (nI j)), (3, .int (nI s)), (4, .int (nI i))] [] h := by
    intro m
    induction m with
    | zero => intro i s h1 h2 h3; omega
    | succ m ih =>
      intro i s h1 h2 h3
      refine B_X4_numberOf_9 C Rt (Nat.le_refl 0) (Nat.le_refl 0) ⟨fun _ => ⟨⟨_, rfl⟩, X⟩, fun g => t_xsG X (t_xsL X h3 fun y hy => ⟨fun g2 => ?_, fun _ => ⟨t_xrc X, t_ci (k_X4_enter X h3 (by omega)) fun z h' X' => ⟨⟨_, rfl⟩, X'⟩⟩⟩)⟩
      have g1 := zlt (by omega) g
      have y1 : 1 ≤ y := by
        rcases Nat.eq_zero_or_pos y with z | z
        · subst z
          exact absurd g2 (by decide)
        · exact z
      rw [pk_sub y1]
      refine t_xfG X (t_xfL X (by omega) fun z hz => ⟨t_wrc X hr, _, k_X5_areSame R, fun v h' q => ?_⟩)
      obtain ⟨e, b, rfl⟩ := q
      subst e
      refine ⟨b, rfl, fun _ => ?_, fun _ => ⟨⟨_, rfl⟩, X⟩⟩
      rw [nI_add, nI_add, pk_andN (by omega) 11 (by decide)]
      exact ih (i + 1) _ (by omega) (by omega) (Nat.mod_lt _ (by decide))
  refine B_X4_numberOf_0 C Rt (Nat.le_refl 0) (Nat.le_refl 0) ⟨_, k_X4_slotOf R hj, fun v h' q => ?_⟩
  obtain ⟨e, y, hy, rfl⟩ := q
  subst e
  exact ⟨_, rfl, key 2049 0 y (by omega) (by omega) hy⟩
end ZR7
