section ZS1
variable {K : zm_K} {ad : Nat → Nat} {sw rw : Bool} {T : Nat} {h : zm_H}
/-- the tape, or the input: at 3, or at 5 -/
def zU (o : Nat) : Prop := o = 3 ∨ o = 5
theorem zX.inp (X : zX K ad sw rw T h) {o : Nat} (ho : zU o) : ∃ s t, s ≤ 24000 ∧ h (ad o) = some (.inr (0, [.ref (ad (o + 1)), .int (nI s)])) ∧ h (ad (o + 1)) = some (zB K 24000 t) := by
  rcases ho with rfl | rfl
  · obtain ⟨_, h1, s, hs, _, rfl⟩ := X.2 3 (by decide)
    obtain ⟨_, h2, t, rfl⟩ := X.2 4 (by decide)
    exact ⟨s, t, hs, h1, h2⟩
  · obtain ⟨_, h1, s, hs, _, rfl⟩ := X.2 5 (by decide)
    obtain ⟨_, h2, t, rfl⟩ := X.2 6 (by decide)
    exact ⟨s, t, hs, h1, h2⟩
theorem k_X2_open (X : zX K ad sw rw T h) {o : Nat} (ho : zU o) : zm_Ct K M_X2_open [.ref (ad 27), .ref (ad o)] h (poX K ad sw rw T) := by
  refine zm_meet (by decide) (Nat.le_of_ble_eq_true rfl) ?_
  intro E C Rt _
  refine B_X2_open_0 C Rt (Nat.le_refl 0) (Nat.le_refl 0) (t_g0 X ⟨t_src X, ?_⟩)
  obtain ⟨j, at9, lim, flt, n, t, hj, j32, ne, hn, h1, h2, hid, st⟩ := X.scan
  obtain ⟨s, t2, hs, h3, h4⟩ := X.inp ho
  have M := k_X7_open (K := K) (h := h) (s := ad 28) (ca := ad j) (at9 := at9) (lim := lim) (flt := flt) h3 (X.ne (by rcases ho with rfl | rfl <;> decide) (by decide) (by rcases ho with rfl | rfl <;> decide))
  rw [hid] at M
  refine ⟨_, M, fun v h' q => ?_⟩
  obtain ⟨rfl, rfl⟩ := q
  exact ⟨rfl, rfl, X.set 28 (by decide) ⟨o + 1, _, _, _, by rcases ho with rfl | rfl <;> simp, rfl⟩⟩
theorem k_X2_plain (X : zX K ad sw rw T h) {r n : Nat} (hr : zV r) (hn : n ≤ 1000) : zm_Ct K M_X2_plain [.ref (ad 27), .ref (ad r), .int (nI n)] h (poX K ad sw rw T) := by
  refine zm_meet (by decide) (Nat.le_of_ble_eq_true rfl) ?_
  intro E C Rt _
  refine B_X2_plain_0 C Rt ?_
  suffices key : ∀ (m i : Nat) (h : zm_H), zX K ad sw rw T h → i ≤ 1000 → 1000 < m + i → zm_Go E 0 0 2 [(0, .ref (ad 27)), (1, .ref (ad r)), (2, .int (nI n)), (3, .int (nI i))] [] h from key 1001 0 h X (by omega) (by omega)
  intro m
  induction m with
  | zero => intro i h X h1 h2; omega
  | succ m ih =>
    intro i h X h1 h2
    have fin : zm_gR h (ad 27) 2 0 fun v1 => zm_rc h v1 7 ∧ zm_cv K M_X7_expectEnd [.ref v1] h fun h1 => poX K ad sw rw T none h1 := t_g0 X (t_expectEnd X fun h1 X1 => ⟨rfl, X1⟩)
    refine B_X2_plain_2 C Rt (Nat.le_refl 0) (Nat.le_refl 0) ⟨fun _ => fin, fun g => t_g0 X (t_failed X fun b => ⟨fun _ => fin, fun _ => ?_⟩)⟩
    have g2 := zlt (by omega) g
    rw [nI_add]
    exact ⟨t_grc X, t_ci (k_X2_textLength X) fun y h1 X1 => ⟨t_grc X1, t_cv (k_X2_takeText X1 hr) fun h' X' => ih (i + 1) h' X' (by omega) (by omega)⟩⟩
theorem k_X2_lengths (X : zX K ad sw rw T h) {r n : Nat} (hr : zV r) (hn : n ≤ 1000) : zm_Ct K M_X2_lengths [.ref (ad 27), .ref (ad r), .int (nI n)] h (poX K ad sw rw T) := by
  refine zm_meet (by decide) (Nat.le_of_ble_eq_true rfl) ?_
  intro E C Rt _
  have k58 : ∀ (m i : Nat) (h : zm_H), zX K ad sw rw T h → i ≤ 1000 → 1000 < m + i → zm_Go E 0 0 58 [(0, .ref (ad 27)), (1, .ref (ad r)), (2, .int (nI n)), (3, .int (nI i))] [] h := by
    intro m
    induction m with
    | zero => intro i h X h1 h2; omega
    | succ m ih =>
      intro i h X h1 h2
      have fin : zm_gR h (ad 27) 2 0 fun v1 => zm_rc h v1 7 ∧ zm_cv K M_X7_expectEnd [.ref v1] h fun h1 => poX K ad sw rw T none h1 := t_g0 X (t_expectEnd X fun h1 X1 => ⟨rfl, X1⟩)
      refine B_X2_lengths_58 C Rt (Nat.le_refl 0) (Nat.le_refl 0) ⟨fun _ => fin, fun g => t_g0 X (t_failed X fun b => ⟨fun _ => fin, fun _ => ?_⟩)⟩
      have g2 := zlt (by omega) g
      rw [nI_add]
      exact t_g1 X (t_cnG X zC13 (t_cnL X zC13 (by omega) fun x => ⟨t_grc X, t_cv (k_X2_takeText X hr) fun h' X' => ih (i + 1) h' X' (by omega) (by omega)⟩))
  have k11 : ∀ (m i : Nat) (h : zm_H), zX K ad sw rw T h → i ≤ 1000 → 1000 < m + i → zm_Go E 0 0 11 [(0, .ref (ad 27)), (1, .ref (ad r)), (2, .int (nI n)), (3, .int (nI i))] [] h := by
    intro m
    induction m with
    | zero => intro i h X h1 h2; omega
    | succ m ih =>
      intro i h X h1 h2
      refine B_X2_lengths_11 C Rt (Nat.le_refl 0) (Nat.le_refl 0) ⟨fun _ => k58 1001 0 h X (by omega) (by omega), fun g => t_g0 X (t_failed X fun b => ⟨fun _ => k58 1001 0 h X (by omega) (by omega), fun _ => ?_⟩)⟩
      have g2 := zlt (by omega) g
      rw [nI_add]
      exact t_g1 X (t_cnG X zC13 (t_cnL X zC13 (by omega) fun x => t_isLength fun b => ⟨fun _ => ih (i + 1) h X (by omega) (by omega), fun _ => t_g0 X (t_fail X fun h' X' => ih (i + 1) h' X' (by omega) (by omega))⟩))
  exact B_X2_lengths_0 C Rt (Nat.le_refl 0) (Nat.le_refl 0) (t_g1 X ⟨t_grc X, t_cv (k_X2_takeCode X zC13) fun h1 X1 => k11 1001 0 h1 X1 (by omega) (by omega)⟩)
theorem k_X2_front (X : zX K ad sw rw T h) {r n : Nat} (hr : zV r) (hn : n ≤ 1000) : zm_Ct K M_X2_front [.ref (ad 27), .ref (ad r), .int (nI n)] h (poX K ad sw rw T) := by
  refine zm_meet (by decide) (Nat.le_of_ble_eq_true rfl) ?_
  intro E C Rt _
  have k30 : ∀ (m i : Nat) (h : zm_H), zX K ad sw rw T h → i ≤ 1000 → 1000 < m + i → zm_Go E 0 0 30 [(0, .ref (ad 27)), (1, .ref (ad r)), (2, .int (nI n)), (3, .int (nI i))] [] h := by
    intro m
    induction m with
    | zero => intro i h X h1 h2; omega
    | succ m ih =>
      intro i h X h1 h2
      have fin : zm_gR h (ad 27) 2 0 fun v1 => zm_rc h v1 7 ∧ zm_cv K M_X7_expectEnd [.ref v1] h fun h1 => poX K ad sw rw T none h1 := t_g0 X (t_expectEnd X fun h1 X1 => ⟨rfl, X1⟩)
      refine B_X2_front_30 C Rt (Nat.le_refl 0) (Nat.le_refl 0) ⟨fun _ => fin, fun g => t_g0 X (t_failed X fun b => ⟨fun _ => fin, fun _ => ?_⟩)⟩
      have g2 := zlt (by omega) g
      rw [nI_add]
      have nx : ∀ h', zX K ad sw rw T h' → zm_Go E 0 0 30 [(0, .ref (ad 27)), (1, .ref (ad r)), (2, .int (nI n)), (3, .int (nI (i + 1)))] [] h' := fun h' X' => ih (i + 1) h' X' (by omega) (by omega)
      have bad : zm_gR h (ad 27) 2 0 fun v12 => zm_rc h v12 7 ∧ zm_cv K M_X7_fail [.ref v12, .int (nI 7)] h fun h5 => zm_Go E 0 0 30 [(0, .ref (ad 27)), (1, .ref (ad r)), (2, .int (nI n)), (3, .int (nI (i + 1)))] [] h5 := t_g0 X (t_fail X nx)
      exact t_g1 X (t_cnG X zC13 (t_cnL X zC13 (by omega) fun x => t_g2 X (t_cnG X zC16 (t_cnL X zC16 (by omega) fun y => t_isLength fun b1 => ⟨fun _ => bad, fun _ => t_isLength fun b2 => ⟨fun _ => bad, fun _ => t_isLength fun b3 => ⟨fun _ => bad, fun _ => t_lengthOf X hr fun l => ⟨fun _ => bad, fun _ => ⟨t_grc X, t_cv (k_X2_takeText X hr) nx⟩⟩⟩⟩⟩))))
  exact B_X2_front_0 C Rt (Nat.le_refl 0) (Nat.le_refl 0) (t_g1 X ⟨t_grc X, t_cv (k_X2_takeCode X zC13) fun h1 X1 => t_g0 X1 (t_failed X1 fun b => ⟨fun _ => k30 1001 0 h1 X1 (by omega) (by omega), fun _ => t_g2 X1 ⟨t_grc X1, t_cv (k_X2_takeCode X1 zC16) fun h2 X2 => k30 1001 0 h2 X2 (by omega) (by omega)⟩⟩)⟩)
theorem k_X2_dictionary (X : zX K ad sw rw T h) {r n : Nat} (hr : zV r) (hn : n ≤ 1000) : zm_Ct K M_X2_dictionary [.ref (ad 27), .ref (ad r), .int (nI n)] h (poX K ad sw rw T) := by
  refine zm_meet (by decide) (Nat.le_of_ble_eq_true rfl) ?_
  intro E C Rt _
  have k110 : ∀ (d m i : Nat) (h : zm_H), d ≤ 1000 → zX K ad sw rw T h → i ≤ 1000 → 1000 < m + i → zm_Go E 0 0 110 [(0, .ref (ad 27)), (1, .ref (ad r)), (2, .int (nI n)), (3, .long (lN d)), (6, .int (nI i))] [] h := by
    intro d m
    induction m with
    | zero => intro i h hd X h1 h2; omega
    | succ m ih =>
      intro i h hd X h1 h2
      refine B_X2_dictionary_110 C Rt (Nat.le_refl 0) (Nat.le_refl 0) ⟨fun _ => ⟨rfl, X⟩, fun g => t_g0 X (t_failed X fun b => ⟨fun _ => ⟨rfl, X⟩, fun _ => ?_⟩)⟩
      have g2 := zlt (by omega) g
      rw [nI_add]
      exact t_g3 X (t_rnG X (t_rnL X (by omega) fun x => ⟨t_grc X, t_cv (k_X2_copyText X hr hd) fun h' X' => ih (i + 1) h' hd X' (by omega) (by omega)⟩))
  have z110 : ∀ (x : Int64) (h : zm_H), zX K ad sw rw T h → zFt ad h → zm_Go E 0 0 110 [(0, .ref (ad 27)), (1, .ref (ad r)), (2, .int (nI n)), (3, .long x), (6, .int (nI 0))] [] h := fun x h X Z => B_X2_dictionary_110 C Rt (Nat.le_refl 0) (Nat.le_refl 0) ⟨fun _ => ⟨rfl, X⟩, fun g => t_g0 X (u_failed X Z ⟨fun _ => ⟨rfl, X⟩, fun z => absurd z (by decide)⟩)⟩
  -- the WIDTH and on, with a good d
  have mid : ∀ (d : Nat) (h : zm_H), d ≤ 1000 → zX K ad sw rw T h → zm_gR h (ad 27) 2 0 fun v1 => zm_rc h v1 7 ∧ zm_ci K M_X7_nextByte [.ref v1] h fun v2 h1 => (v2 ≤ (nI 32) → zm_gR h1 (ad 27) 2 3 fun v3 => zm_gR h1 (ad 27) 2 0 fun v4 => zm_rc h1 v3 6 ∧ zm_cv K M_X6_readFrom [.ref v3, .ref v4, .int (nI n), .int v2] h1 fun h2 => zm_gR h2 (ad 27) 2 0 fun v5 => zm_rc h2 v5 7 ∧ zm_cv K M_X7_expectEnd [.ref v5] h2 fun h3 => zm_Go E 0 0 110 [(0, .ref (ad 27)), (1, .ref (ad r)), (2, .int (nI n)), (3, .long (lN d)), (6, .int (nI 0))] [] h3) ∧ (¬ v2 ≤ (nI 32) → zm_gR h1 (ad 27) 2 0 fun v6 => zm_rc h1 v6 7 ∧ zm_cv K M_X7_fail [.ref v6, .int (nI 5)] h1 fun h4 => zm_gR h4 (ad 27) 2 3 fun v7 => zm_gR h4 (ad 27) 2 0 fun v8 => zm_rc h4 v7 6 ∧ zm_cv K M_X6_readFrom [.ref v7, .ref v8, .int (nI n), .int v2] h4 fun h5 => zm_gR h5 (ad 27) 2 0 fun v9 => zm_rc h5 v9 7 ∧ zm_cv K M_X7_expectEnd [.ref v9] h5 fun h6 => zm_Go E 0 0 110 [(0, .ref (ad 27)), (1, .ref (ad r)), (2, .int (nI n)), (3, .long (lN d)), (6, .int (nI 0))] [] h6) := by
    intro d h hd X
    have run : ∀ (w : Int32) (h : zm_H), zX K ad sw rw T h → zm_gR h (ad 27) 2 3 fun v3 => zm_gR h (ad 27) 2 0 fun v4 => zm_rc h v3 6 ∧ zm_cv K M_X6_readFrom [.ref v3, .ref v4, .int (nI n), .int w] h fun h2 => zm_gR h2 (ad 27) 2 0 fun v5 => zm_rc h2 v5 7 ∧ zm_cv K M_X7_expectEnd [.ref v5] h2 fun h3 => zm_Go E 0 0 110 [(0, .ref (ad 27)), (1, .ref (ad r)), (2, .int (nI n)), (3, .long (lN d)), (6, .int (nI 0))] [] h3 := fun w h X => t_g3 X (t_g0 X ⟨t_rrc X, t_cv (k_X6_readFrom X hn) fun h2 X2 => t_g0 X2 (t_expectEnd X2 fun h3 X3 => k110 d 1001 0 h3 hd X3 (by omega) (by omega))⟩)
    exact t_g0 X (t_nextByte X fun w h1 X1 => ⟨fun _ => run w h1 X1, fun _ => t_g0 X1 (t_fail X1 fun h4 X4 => run w h4 X4)⟩)
  have zmid : ∀ (x : Int64) (h : zm_H), zX K ad sw rw T h → zFt ad h → zm_gR h (ad 27) 2 0 fun v1 => zm_rc h v1 7 ∧ zm_ci K M_X7_nextByte [.ref v1] h fun v2 h1 => (v2 ≤ (nI 32) → zm_gR h1 (ad 27) 2 3 fun v3 => zm_gR h1 (ad 27) 2 0 fun v4 => zm_rc h1 v3 6 ∧ zm_cv K M_X6_readFrom [.ref v3, .ref v4, .int (nI n), .int v2] h1 fun h2 => zm_gR h2 (ad 27) 2 0 fun v5 => zm_rc h2 v5 7 ∧ zm_cv K M_X7_expectEnd [.ref v5] h2 fun h3 => zm_Go E 0 0 110 [(0, .ref (ad 27)), (1, .ref (ad r)), (2, .int (nI n)), (3, .long x), (6, .int (nI 0))] [] h3) ∧ (¬ v2 ≤ (nI 32) → zm_gR h1 (ad 27) 2 0 fun v6 => zm_rc h1 v6 7 ∧ zm_cv K M_X7_fail [.ref v6, .int (nI 5)] h1 fun h4 => zm_gR h4 (ad 27) 2 3 fun v7 => zm_gR h4 (ad 27) 2 0 fun v8 => zm_rc h4 v7 6 ∧ zm_cv K M_X6_readFrom [.ref v7, .ref v8, .int (nI n), .int v2] h4 fun h5 => zm_gR h5 (ad 27) 2 0 fun v9 => zm_rc h5 v9 7 ∧ zm_cv K M_X7_expectEnd [.ref v9] h5 fun h6 => zm_Go E 0 0 110 [(0, .ref (ad 27)), (1, .ref (ad r)), (2, .int (nI n)), (3, .long x), (6, .int (nI 0))] [] h6) := by
    intro x h X Z
    have run : ∀ (w : Int32) (h : zm_H), zX K ad sw rw T h → zFt ad h → zm_gR h (ad 27) 2 3 fun v3 => zm_gR h (ad 27) 2 0 fun v4 => zm_rc h v3 6 ∧ zm_cv K M_X6_readFrom [.ref v3, .ref v4, .int (nI n), .int w] h fun h2 => zm_gR h2 (ad 27) 2 0 fun v5 => zm_rc h2 v5 7 ∧ zm_cv K M_X7_expectEnd [.ref v5] h2 fun h3 => zm_Go E 0 0 110 [(0, .ref (ad 27)), (1, .ref (ad r)), (2, .int (nI n)), (3, .long x), (6, .int (nI 0))] [] h3 := fun w h X Z => t_g3 X (t_g0 X ⟨t_rrc X, _, z_readFrom X Z, fun v h2 q => by
      obtain ⟨rfl, X2, Z2⟩ := q
      exact ⟨rfl, t_g0 X2 (z_expectEnd X2 Z2 fun h3 X3 Z3 => z110 x h3 X3 Z3)⟩⟩)
    exact t_g0 X (z_nextByte X Z fun w h1 X1 Z1 => ⟨fun _ => run w h1 X1 Z1, fun _ => t_g0 X1 (u_fail X1 (by decide) fun h4 X4 _ Z4 => run w h4 X4 Z4)⟩)
  have z32 : ∀ (x : Int64) (i : Int32) (h : zm_H), zX K ad sw rw T h → zFt ad h → zm_Go E 0 0 32 [(0, .ref (ad 27)), (1, .ref (ad r)), (2, .int (nI n)), (3, .long x), (5, .int i)] [] h := fun x i h X Z => B_X2_dictionary_32 C Rt (Nat.le_refl 0) (Nat.le_refl 0) ⟨fun _ => zmid x h X Z, fun _ => t_g0 X (u_failed X Z ⟨fun _ => zmid x h X Z, fun z => absurd z (by decide)⟩)⟩
  have k32 : ∀ (d m i : Nat) (h : zm_H), d ≤ 1000 → zX K ad sw rw T h → i ≤ 1000 → 1000 < m + i → zm_Go E 0 0 32 [(0, .ref (ad 27)), (1, .ref (ad r)), (2, .int (nI n)), (3, .long (lN d)), (5, .int (nI i))] [] h := by
    intro d m
    induction m with
    | zero => intro i h hd X h1 h2; omega
    | succ m ih =>
      intro i h hd X h1 h2
      refine B_X2_dictionary_32 C Rt (Nat.le_refl 0) (Nat.le_refl 0) ⟨fun _ => mid d h hd X, fun g => t_g0 X (t_failed X fun b => ⟨fun _ => mid d h hd X, fun _ => ?_⟩)⟩
      have g2 : i < d := by
        rcases Nat.lt_or_ge i d with q | q
        · exact q
        · exact absurd ((lg_cmp_ge _ _).mpr (by rw [nI_l (by omega)]; exact (pk_lLE (by omega) (by omega)).mpr q)) g
      rw [nI_add]
      exact ⟨t_grc X, t_cv (k_X2_enterText X (by omega)) fun h' X' => ih (i + 1) h' hd X' (by omega) (by omega)⟩
  refine B_X2_dictionary_0 C Rt (Nat.le_refl 0) (Nat.le_refl 0) (t_g0 X (t_varint X fun v h1 X1 => ⟨fun _ => t_g0 X1 (u_fail X1 (by decide) fun h2 X2 _ Z2 => z32 v _ h2 X2 Z2), fun g1 => ⟨fun g2 => ?_, fun _ => t_g0 X1 (u_fail X1 (by decide) fun h2 X2 _ Z2 => z32 v _ h2 X2 Z2)⟩⟩))
  have g3 : ¬ v < lN 0 := fun z => g1 ((lg_cmp_lt _ _).mpr z)
  obtain ⟨e, he, rfl⟩ := pk_lOf g3
  have g4 := zlc he (by omega) g2
  exact k32 e 1001 0 h1 (by omega) X1 (by omega) (by omega)
end ZS1
