section ZR5
variable {K : zm_K} {ad : Nat → Nat} {sw rw : Bool} {T : Nat} {h : zm_H}
/-! RUNS: at 19 -/
def zRn (ad : Nat → Nat) (h : zm_H) (c : Nat) : Prop := h (ad 19) = some (.inr (6, [.ref (ad 20), .int (nI c)]))
theorem zX.runs (X : zX K ad sw rw T h) : ∃ c f, c ≤ 1000 ∧ zRn ad h c ∧ h (ad 20) = some (zL K 1000 f) ∧ (∀ c', c' ≤ 1000 → zX K ad sw rw T (zm_set h (ad 19) (.inr (6, [.ref (ad 20), .int (nI c')])))) ∧ ∀ f', zX K ad sw rw T (zm_set h (ad 20) (zL K 1000 f')) := by
  obtain ⟨_, h1, c, hc, rfl⟩ := X.2 19 (by decide)
  obtain ⟨_, h2, f, rfl⟩ := X.2 20 (by decide)
  exact ⟨c, f, hc, h1, h2, fun c' hc' => X.set 19 (by decide) ⟨_, hc', rfl⟩, fun _ => X.set 20 (by decide) ⟨_, rfl⟩⟩
theorem t_rrc (X : zX K ad sw rw T h) : zm_rc h (ad 19) 6 := by
  obtain ⟨c, f, hc, h1, -⟩ := X.runs
  simp only [zm_rc, show h (ad 19) = _ from h1]
theorem t_rcG (X : zX K ad sw rw T h) {F : Int32 → Prop} (hF : ∀ c, c ≤ 1000 → zRn ad h c → F (nI c)) : zm_gI h (ad 19) 6 1 F := by
  obtain ⟨c, f, hc, h1, -⟩ := X.runs
  simp only [zm_gI, show h (ad 19) = _ from h1, List.getElem?_cons_zero, List.getElem?_cons_succ, true_and]
  exact hF c hc h1
theorem t_rcGx {c : Nat} (hc : zRn ad h c) {F : Int32 → Prop} (hF : F (nI c)) : zm_gI h (ad 19) 6 1 F := by
  simp only [zm_gI, show h (ad 19) = _ from hc, List.getElem?_cons_zero, List.getElem?_cons_succ, true_and]
  exact hF
theorem t_rcP (X : zX K ad sw rw T h) {c : Nat} (hc : c ≤ 1000) {F : zm_H → Prop} (hF : ∀ h', zX K ad sw rw T h' → zRn ad h' c → F h') : zm_pf h (ad 19) 6 1 (.int (nI c)) F := by
  obtain ⟨_, f, -, h1, -, st, -⟩ := X.runs
  simp only [zm_pf, show h (ad 19) = _ from h1, List.set_cons_zero, List.set_cons_succ, List.length_cons, List.length_nil, true_and]
  exact ⟨by decide, hF _ (st c hc) (zm_set_s _ _ _)⟩
theorem t_rnG (X : zX K ad sw rw T h) {F : Nat → Prop} (hF : F (ad 20)) : zm_gR h (ad 19) 6 0 F := by
  obtain ⟨c, f, hc, h1, -⟩ := X.runs
  simp only [zm_gR, show h (ad 19) = _ from h1, List.getElem?_cons_zero, List.getElem?_cons_succ, true_and]
  exact hF
theorem t_rnL (X : zX K ad sw rw T h) {i : Nat} (hi : i < 1000) {F : Int64 → Prop} (hF : ∀ x, F x) : zm_lL K h (ad 20) (nI i) F := by
  obtain ⟨c, f, hc, h1, h2, -⟩ := X.runs
  unfold zL at h2
  simp only [zm_lL, h2, true_and]
  exact ⟨vp_in_nI hi (by decide), hF _⟩
theorem t_rnS (X : zX K ad sw rw T h) {i c : Nat} (hi : i < 1000) (hc : zRn ad h c) {x : Int64} {F : zm_H → Prop} (hF : ∀ h', zX K ad sw rw T h' → zRn ad h' c → F h') : zm_sL K h (ad 20) (nI i) x F := by
  obtain ⟨_, f, -, h1, h2, -, st⟩ := X.runs
  unfold zL at h2
  simp only [zm_sL, h2, true_and]
  exact ⟨vp_in_nI hi (by decide), hF _ (st _) ((zm_set_n (X.ne (by decide) (by decide) (by decide))).trans hc)⟩
theorem k_X6_sameFrom (X : zX K ad sw rw T h) {a : Nat} (ha : a < 1000) : zm_Ct K M_X6_sameFrom [.ref (ad 19), .int (nI a)] h (fun v h' => h' = h ∧ ∃ y, y ≤ 1001 ∧ v = some (.int (nI y))) := by
  refine zm_meet (by decide) (Nat.le_of_ble_eq_true rfl) ?_
  intro E C Rt _
  refine B_X6_sameFrom_0 C Rt ?_
  suffices key : ∀ (m i : Nat), i ≤ 1001 → 1001 < m + i → zm_Go E 0 0 2 [(0, .ref (ad 19)), (1, .int (nI a)), (2, .int (nI i))] [] h from key 1001 1 (by omega) (by omega)
  intro m
  induction m with
  | zero => intro i h1 h2; omega
  | succ m ih =>
    intro i h1 h2
    refine B_X6_sameFrom_2 C Rt (Nat.le_refl 0) (Nat.le_refl 0) (t_rcG X fun c hc _ => ?_)
    rw [nI_add]
    refine ⟨fun _ => ⟨rfl, i, h1, rfl⟩, fun g => ?_⟩
    have g2 := zlt (by omega) g
    rw [nI_add]
    exact t_rnG X (t_rnL X (by omega) fun _ => t_rnG X (t_rnL X ha fun _ => ⟨fun _ => ⟨rfl, i, h1, rfl⟩, fun _ => ih (i + 1) (by omega) (by omega)⟩))
theorem t_sameFrom (X : zX K ad sw rw T h) {a : Nat} (ha : a < 1000) {F : Int32 → zm_H → Prop} (hF : ∀ y, y ≤ 1001 → F (nI y) h) : zm_rc h (ad 19) 6 ∧ zm_ci K M_X6_sameFrom [.ref (ad 19), .int (nI a)] h F := ⟨t_rrc X, _, k_X6_sameFrom X ha, fun _ _ q => by
  obtain ⟨rfl, y, hy, rfl⟩ := q
  exact ⟨_, rfl, hF y hy⟩⟩
theorem k_X6_groupsFrom (X : zX K ad sw rw T h) {a : Nat} (ha : a < 1000) : zm_Ct K M_X6_groupsFrom [.ref (ad 19), .int (nI a)] h (fun v h' => h' = h ∧ ∃ y, y ≤ 1001 ∧ v = some (.int (nI y))) := by
  refine zm_meet (by decide) (Nat.le_of_ble_eq_true rfl) ?_
  intro E C Rt _
  refine B_X6_groupsFrom_0 C Rt ?_
  suffices key : ∀ (m i : Nat), i ≤ 1001 → 1001 < m + i → zm_Go E 0 0 2 [(0, .ref (ad 19)), (1, .int (nI a)), (2, .int (nI i))] [] h from key 1001 1 (by omega) (by omega)
  intro m
  induction m with
  | zero => intro i h1 h2; omega
  | succ m ih =>
    intro i h1 h2
    refine B_X6_groupsFrom_2 C Rt (Nat.le_refl 0) (Nat.le_refl 0) (t_rcG X fun c hc _ => ?_)
    rw [pk_mul, nI_add]
    refine ⟨fun _ => ⟨rfl, i, h1, rfl⟩, fun g => ?_⟩
    have g2 := zlt (by omega) g
    rw [nI_add]
    exact t_sameFrom X (by omega) fun y hy => ⟨fun _ => ⟨rfl, i, h1, rfl⟩, fun _ => ih (i + 1) (by omega) (by omega)⟩
theorem k_X6_writeOne (X : zX K ad sw rw T h) {o cap a : Nat} {x1 x2 : Int32} (ho : zW o cap) (ha : a < 1000) : zm_Ct K M_X6_writeOne [.ref (ad 19), .ref (ad o), .int (nI a), .int x1, .int x2] h (poX K ad sw rw T) := by
  refine zm_meet (by decide) (Nat.le_of_ble_eq_true rfl) ?_
  intro E C Rt _
  exact B_X6_writeOne_0 C Rt (Nat.le_refl 0) (Nat.le_refl 0) (t_putVarint X ho fun h1 X1 => t_bsz X1 ho fun b => ⟨by decide, t_putZeros X1 ho fun h2 X2 => t_rnG X2 (t_rnL X2 ha fun x => t_setBits X2 ho fun h3 X3 => ⟨rfl, X3⟩)⟩)
theorem k_X6_writeGroups (X : zX K ad sw rw T h) {o cap a g : Nat} {x2 : Int32} (ho : zW o cap) (ha : a < 1000) (hg : g ≤ 1001) : zm_Ct K M_X6_writeGroups [.ref (ad 19), .ref (ad o), .int (nI a), .int (nI g), .int x2] h (poX K ad sw rw T) := by
  refine zm_meet (by decide) (Nat.le_of_ble_eq_true rfl) ?_
  intro E C Rt _
  have key : ∀ (b : Int32) (e m i : Nat) (h : zm_H), e ≤ 1000 → zX K ad sw rw T h → i ≤ 1000 → 1000 < m + i → zm_Go E 0 0 44 [(0, .ref (ad 19)), (1, .ref (ad o)), (2, .int (nI a)), (4, .int x2), (5, .int b), (6, .int (nI e)), (7, .int (nI i))] [] h := by
    intro b e m
    induction m with
    | zero => intro i h he X h1 h2; omega
    | succ m ih =>
      intro i h he X h1 h2
      refine B_X6_writeGroups_44 C Rt (Nat.le_refl 0) (Nat.le_refl 0) ⟨fun _ => ⟨rfl, X⟩, fun g => ?_⟩
      have g2 := zlt (by omega) g
      rw [nI_add]
      exact t_rnG X (t_rnL X (by omega) fun _ => t_setBits X ho fun h' X' => ih (i + 1) h' he X' (by omega) (by omega))
  refine B_X6_writeGroups_0 C Rt (Nat.le_refl 0) (Nat.le_refl 0) (t_putVarint X ho fun h1 X1 => t_bsz X1 ho fun b => t_putZeros X1 ho fun h2 X2 => t_rcG X2 fun c hc _ => ?_)
  rw [pk_mul, nI_add, zmin (by omega) (by omega)]
  exact key b _ 1001 a h2 (by omega) X2 (by omega) (by omega)
theorem k_X6_writeOn (X : zX K ad sw rw T h) {o cap : Nat} {x2 : Int32} (ho : zW o cap) : zm_Ct K M_X6_writeOn [.ref (ad 19), .ref (ad o), .int x2] h (poX K ad sw rw T) := by
  refine zm_meet (by decide) (Nat.le_of_ble_eq_true rfl) ?_
  intro E C Rt _
  refine B_X6_writeOn_0 C Rt ?_
  suffices key : ∀ (m r a : Nat) (h : zm_H), zX K ad sw rw T h → r ≤ 1000 → 1000 < m + r → a < 2 ^ 20 → zm_Go E 0 0 5 [(0, .ref (ad 19)), (1, .ref (ad o)), (2, .int x2), (3, .int (nI a)), (4, .int (nI r))] [] h from key 1001 0 0 h X (by omega) (by omega) (by omega)
  intro m
  induction m with
  | zero => intro r a h X h1 h2 h3; omega
  | succ m ih =>
    intro r a h X h1 h2 h3
    refine B_X6_writeOn_5 C Rt (Nat.le_refl 0) (Nat.le_refl 0) (t_rcG X fun c hc _ => ⟨fun _ => ⟨rfl, X⟩, fun g => t_rcG X fun c2 hc2 _ => ⟨fun _ => ⟨rfl, X⟩, fun g2 => ?_⟩⟩)
    have g3 := zlt (by omega) g
    have g4 := zlt (by omega) g2
    refine t_sameFrom X (by omega) fun y hy => ⟨fun _ => ⟨t_rrc X, _, k_X6_groupsFrom X (by omega), fun v h' q => ?_⟩, fun _ => ⟨t_rrc X, t_cv (k_X6_writeOne X ho (by omega)) fun h' X' => ?_⟩⟩
    · obtain ⟨rfl, z, hz, rfl⟩ := q
      refine ⟨_, rfl, t_rrc X, t_cv (k_X6_writeGroups X ho (by omega) hz) fun h' X' => ?_⟩
      rw [pk_mul, nI_add, nI_add]
      exact ih (r + 1) _ h' X' (by omega) (by omega) (by omega)
    · rw [nI_add, nI_add]
      exact ih (r + 1) _ h' X' (by omega) (by omega) (by omega)
end ZR5
