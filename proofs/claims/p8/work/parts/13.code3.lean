section ZR3
variable {K : zm_K} {ad : Nat → Nat} {sw rw : Bool} {T : Nat} {h : zm_H}
theorem zmax {a b : Nat} (ha : a < 2 ^ 31) (hb : b < 2 ^ 31) : (if nI a < nI b then nI b else nI a) = nI (max a b) := by
  by_cases q : a < b
  · rw [if_pos ((nI_ltI ha hb).mpr q), Nat.max_eq_right (by omega)]
  · rw [if_neg (fun z => q ((nI_ltI ha hb).mp z)), Nat.max_eq_left (by omega)]
theorem k_X1_readPart (X : zX K ad sw rw T h) {k a e : Nat} {x : Int32} {y : Int64} (hk : zC k) (ha : 1 ≤ a) (ha2 : a < 2 ^ 30) (he : e ≤ 2000) : zm_Ct K M_X1_readPart [.ref (ad k), .ref (ad 28), .int (nI a), .int (nI e), .int x, .long y] h (poX K ad sw rw T) := by
  refine zm_meet (by decide) (Nat.le_of_ble_eq_true rfl) ?_
  intro E C Rt _
  have k68 : ∀ (m i : Nat) (h : zm_H), zX K ad sw rw T h → i < 2 ^ 30 + 2000 → a + 16 < m + i → zm_Go E 0 0 68 [(1, .ref (ad 28)), (2, .int (nI a)), (4, .int x), (7, .int (nI i))] [] h := by
    intro m
    induction m with
    | zero =>
      intro i h X h1 h3
      refine B_X1_readPart_68 C Rt (Nat.le_refl 0) (Nat.le_refl 0) ⟨fun _ => t_satG X fun y => t_satP X fun h' X' => ⟨rfl, X'⟩, fun g => ?_⟩
      rw [nI_add] at g
      exact absurd (zlt (by omega) g) (by omega)
    | succ m ih =>
      intro i h X h1 h3
      refine B_X1_readPart_68 C Rt (Nat.le_refl 0) (Nat.le_refl 0) ⟨fun _ => t_satG X fun y => t_satP X fun h' X' => ⟨rfl, X'⟩, fun g => ?_⟩
      rw [nI_add] at g
      have g2 := zlt (by omega) g
      refine t_bitsAt X fun v => ⟨fun _ => ?_, fun _ => t_fail X fun h' X' => ?_⟩
      · rw [nI_add]
        exact ih (i + 1) h X (by omega) (by omega)
      · rw [nI_add]
        exact ih (i + 1) h' X' (by omega) (by omega)
  have k16 : ∀ (m i : Nat) (h : zm_H), zX K ad sw rw T h → 1 ≤ i → i < 2 ^ 30 → 2001 < m + i → zm_Go E 0 0 16 [(0, .ref (ad k)), (1, .ref (ad 28)), (2, .int (nI a)), (3, .int (nI e)), (4, .int x), (5, .long y), (7, .int (nI i))] [] h := by
    intro m
    induction m with
    | zero =>
      intro i h X h1 h2 h3
      refine B_X1_readPart_16 C Rt (Nat.le_refl 0) (Nat.le_refl 0) ⟨fun _ => ?_, fun g => absurd (zlt (by omega) g) (by omega)⟩
      rw [zmax (by omega) (by omega)]
      exact k68 (a + 17) _ h X (by omega) (by omega)
    | succ m ih =>
      intro i h X h1 h2 h3
      refine B_X1_readPart_16 C Rt (Nat.le_refl 0) (Nat.le_refl 0) ⟨fun _ => ?_, fun g => ?_⟩
      · rw [zmax (by omega) (by omega)]
        exact k68 (a + 17) _ h X (by omega) (by omega)
      · have g2 := zlt (by omega) g
        rw [pk_sub (show 1 ≤ i by omega), nI_add]
        exact t_cnG X hk (t_cnG X hk (t_cnL X hk (by omega) fun _ => t_bitsAt X fun v => t_cnS X hk (by omega) fun h' X' => ih (i + 1) h' X' (by omega) (by omega) (by omega)))
  refine B_X1_readPart_0 C Rt (Nat.le_refl 0) (Nat.le_refl 0) (t_holds X fun v h1 X1 => ⟨fun _ => k16 2001 a h1 X1 ha ha2 (by omega), fun _ => ⟨rfl, X1⟩⟩)
theorem k_X1_readBlock (X : zX K ad sw rw T h) {k a e : Nat} (hk : zC k) (ha : 1 ≤ a) (ha2 : a ≤ 2000) (he : e ≤ 2000) : zm_Ct K M_X1_readBlock [.ref (ad k), .ref (ad 28), .int (nI a), .int (nI e)] h (poX K ad sw rw T) := by
  refine zm_meet (by decide) (Nat.le_of_ble_eq_true rfl) ?_
  intro E C Rt _
  have k89 : ∀ (y : Int64) (m i : Nat) (h : zm_H), zX K ad sw rw T h → 4 < m + i → i ≤ 4 → zm_Go E 0 0 89 [(0, .ref (ad k)), (1, .ref (ad 28)), (2, .int (nI a)), (3, .int (nI e)), (4, .long y), (6, .int (nI i))] [] h := by
    intro y m
    induction m with
    | zero => intro i h X h1 h2; omega
    | succ m ih =>
      intro i h X h1 h2
      refine B_X1_readBlock_89 C Rt (Nat.le_refl 0) (Nat.le_refl 0) ⟨fun _ => ⟨rfl, X⟩, fun g => t_failed X fun v => ⟨fun _ => ⟨rfl, X⟩, fun _ => ?_⟩⟩
      have g2 := zlt (by omega) g
      rw [pk_mul, nI_add, nI_add, zmin (by omega) (by omega), nI_add]
      exact t_cwG X hk (t_cwL X hk g2 fun w => ⟨t_crc X hk, t_cv (k_X1_readPart X hk (by omega) (by omega) (by omega)) fun h' X' => ih (i + 1) h' X' (by omega) (by omega)⟩)
  have k12 : ∀ (y : Int64) (m i : Nat) (h : zm_H), zX K ad sw rw T h → 4 < m + i → i ≤ 4 → zm_Go E 0 0 12 [(0, .ref (ad k)), (1, .ref (ad 28)), (2, .int (nI a)), (3, .int (nI e)), (4, .long y), (6, .int (nI i))] [] h := by
    intro y m
    induction m with
    | zero => intro i h X h1 h2; omega
    | succ m ih =>
      intro i h X h1 h2
      refine B_X1_readBlock_12 C Rt (Nat.le_refl 0) (Nat.le_refl 0) ⟨fun _ => k89 y 5 0 h X (by omega) (by omega), fun g => t_failed X fun v => ⟨fun _ => k89 y 5 0 h X (by omega) (by omega), fun _ => t_nextByte X fun b h2 X2 => ?_⟩⟩
      have g2 := zlt (by omega) g
      have st : ∀ (h : zm_H), zX K ad sw rw T h → zm_gR h (ad k) 1 1 fun v3 => zm_sI K h v3 (nI i) b fun h4 => zm_Go E 0 0 12 [(0, .ref (ad k)), (1, .ref (ad 28)), (2, .int (nI a)), (3, .int (nI e)), (4, .long y), (6, .int (nI i + nI 1))] [] h4 := by
        intro h X
        rw [nI_add]
        exact t_cwG X hk (t_cwS X hk g2 fun h' X' => ih (i + 1) h' X' (by omega) (by omega))
      exact ⟨fun _ => ⟨fun _ => t_fail X2 fun h3 X3 => st h3 X3, fun _ => ⟨fun _ => st h2 X2, fun _ => ⟨fun _ => st h2 X2, fun _ => t_fail X2 fun h3 X3 => st h3 X3⟩⟩⟩, fun _ => ⟨fun _ => t_fail X2 fun h3 X3 => st h3 X3, fun _ => ⟨fun _ => st h2 X2, fun _ => ⟨fun _ => st h2 X2, fun _ => t_fail X2 fun h3 X3 => st h3 X3⟩⟩⟩⟩
  exact B_X1_readBlock_0 C Rt (Nat.le_refl 0) (Nat.le_refl 0) (t_varint X fun v h1 X1 => t_unzig fun y => k12 y 5 0 h1 X1 (by omega) (by omega))
/-- a fault is told, and then there is one -/
theorem t_failFailed (X : zX K ad sw rw T h) {x : Int32} (hx : ¬ x = 0) {F : Int32 → zm_H → Prop} (hF : ∀ h', zX K ad sw rw T h' → F (nI 1) h') : zm_rc h (ad 28) 7 ∧ zm_cv K M_X7_fail [.ref (ad 28), .int x] h fun h3 => zm_rc h3 (ad 28) 7 ∧ zm_ci K M_X7_failed [.ref (ad 28)] h3 F := by
  refine ⟨t_src X, ?_⟩
  obtain ⟨j, at9, lim, flt, n, t, hj, j32, ne, hn, h1, h2, hid, st⟩ := X.scan
  have M := k_X7_fail (K := K) (h := h) (s := ad 28) (ca := ad j) (at9 := at9) (lim := lim) (flt := flt) (x := x)
  rw [hid] at M
  refine ⟨_, M, fun v h' q => ?_⟩
  obtain ⟨rfl, rfl⟩ := q
  have X' := st at9 lim (if flt = 0 then x else flt)
  refine ⟨rfl, t_src X', _, k_X7_failed, fun v h' q => ?_⟩
  obtain ⟨rfl, ⟨e, rfl⟩ | ⟨_, rfl⟩⟩ := q
  · split at e
    · exact absurd e hx
    · rename_i g
      exact absurd e g
  · exact ⟨_, rfl, hF _ X'⟩
theorem k_X1_readFrom (X : zX K ad sw rw T h) {k : Nat} (hk : zC k) : zm_Ct K M_X1_readFrom [.ref (ad k), .ref (ad 28)] h (poX K ad sw rw T) := by
  refine zm_meet (by decide) (Nat.le_of_ble_eq_true rfl) ?_
  intro E C Rt _
  have k62 : ∀ (e m i : Nat) (h : zm_H), e ≤ 2000 → zX K ad sw rw T h → 1 ≤ i → i ≤ 2064 → 2064 < m + i → zm_Go E 0 0 62 [(0, .ref (ad k)), (1, .ref (ad 28)), (4, .int (nI e)), (5, .int (nI i))] [] h := by
    intro e m
    induction m with
    | zero => intro i h he X h1 h2 h3; omega
    | succ m ih =>
      intro i h he X h1 h2 h3
      have fin : ∀ (h : zm_H), zX K ad sw rw T h → zm_rc h (ad 28) 7 ∧ zm_cv K M_X7_expectEnd [.ref (ad 28)] h fun h1 => zm_pf h1 (ad k) 1 2 (.int (nI e)) fun h2 => poX K ad sw rw T none h2 := fun h X => t_expectEnd X fun h1 X1 => t_ccP X1 hk he fun h2 X2 => ⟨rfl, X2⟩
      refine B_X1_readFrom_62 C Rt (Nat.le_refl 0) (Nat.le_refl 0) ⟨fun _ => fin h X, fun g => t_failed X fun v => ⟨fun _ => fin h X, fun _ => ?_⟩⟩
      have g2 := zlt (by omega) g
      rw [nI_add, zmin (by omega) (by omega)]
      exact ⟨t_crc X hk, t_cv (k_X1_readBlock X hk (by omega) (by omega) (by omega)) fun h' X' => ih (i + 64) h' he X' (by omega) (by omega) (by omega)⟩
  refine B_X1_readFrom_0 C Rt (Nat.le_refl 0) (Nat.le_refl 0) (t_ccP X hk (Nat.zero_le _) fun h1 X1 => t_varint X1 fun v h2 X2 => ⟨fun _ => t_failFailed X2 (by decide) fun h3 X3 => ⟨fun z => absurd z (by decide), fun _ => ⟨rfl, X3⟩⟩, fun g1 => ⟨fun g2 => t_failed X2 fun b => ⟨fun _ => ?_, fun _ => ⟨rfl, X2⟩⟩, fun _ => t_failFailed X2 (by decide) fun h3 X3 => ⟨fun z => absurd z (by decide), fun _ => ⟨rfl, X3⟩⟩⟩⟩)
  have g3 : ¬ v < lN 0 := fun z => g1 ((lg_cmp_lt _ _).mpr z)
  have g4 : v ≤ lN 2000 := (lg_cmp_le _ _).mp g2
  obtain ⟨e, he, rfl⟩ := pk_lOf g3
  have g5 := (pk_lLE he (by decide)).mp g4
  rw [lN_i]
  exact ⟨fun _ => k62 e 2064 1 h2 g5 X2 (by omega) (by omega) (by omega), fun _ => t_cnG X2 hk (t_varint X2 fun u h3 X3 => t_unzig fun y => t_cnS X3 hk (by omega) fun h4 X4 => k62 e 2064 1 h4 g5 X4 (by omega) (by omega) (by omega))⟩
end ZR3
