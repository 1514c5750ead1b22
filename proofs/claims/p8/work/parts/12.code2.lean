section ZZ
variable {K : zm_K} {ad : Nat → Nat} {sw rw : Bool} {T : Nat} {h : zm_H}
theorem k_X8_bitsOf {x : Int64} : zm_Ct K M_X8_bitsOf [.long x] h (fun v h' => h' = h ∧ ∃ y : Int32, v = some (.int y)) := by
  refine zm_meet (by decide) (Nat.le_of_ble_eq_true rfl) ?_
  intro E C Rt _
  refine B_X8_bitsOf_0 C Rt ?_
  suffices key : ∀ (m k : Nat), k ≤ 64 → 64 - k < m → zm_Go E 0 0 2 [(0, .long x), (2, .int (nI k))] [] h from key 65 0 (by omega) (by omega)
  intro m
  induction m with
  | zero => intro k _ g; omega
  | succ m ih =>
    intro k hk hm
    refine B_X8_bitsOf_2 C Rt (Nat.le_refl 0) (Nat.le_refl 0) ⟨fun _ => ⟨rfl, _, rfl⟩, fun g => ⟨fun _ => ⟨rfl, _, rfl⟩, fun _ => ?_⟩⟩
    have hk2 : k < 64 := by
      rcases Nat.lt_or_ge k 64 with q | q
      · exact q
      · exact absurd (nI_le q (by omega)) g
    rw [nI_add]
    exact ih (k + 1) (by omega) (by omega)
theorem t_bitsOf {x : Int64} {F : Int32 → zm_H → Prop} (hF : ∀ y, F y h) : zm_ci K M_X8_bitsOf [.long x] h F := ⟨_, k_X8_bitsOf, fun _ _ q => by
  obtain ⟨rfl, y, rfl⟩ := q
  exact ⟨y, rfl, hF y⟩⟩
theorem zlt {a b : Nat} (ha : a < 2 ^ 31) (g : ¬ nI b ≤ nI a) : a < b := by
  rcases Nat.lt_or_ge a b with q | q
  · exact q
  · exact absurd (nI_le q ha) g
theorem k_X1_leastDifference (X : zX K ad sw rw T h) {k a e : Nat} (hk : zC k) (ha : 1 ≤ a) (ha2 : a < 2 ^ 30) (he : e ≤ 2000) : zm_Ct K M_X1_leastDifference [.ref (ad k), .int (nI a), .int (nI e)] h (fun v h' => h' = h ∧ ∃ y : Int64, v = some (.long y)) := by
  refine zm_meet (by decide) (Nat.le_of_ble_eq_true rfl) ?_
  intro E C Rt _
  refine B_X1_leastDifference_0 C Rt ?_
  suffices key : ∀ (m i : Nat) (x : Int64), 1 ≤ i → i < 2 ^ 30 → 2001 < m + i → zm_Go E 0 0 7 [(0, .ref (ad k)), (2, .int (nI e)), (3, .long x), (5, .int (nI i))] [] h from key 2001 a _ ha ha2 (by omega)
  intro m
  induction m with
  | zero =>
    intro i x h1 h2 h3
    exact B_X1_leastDifference_7 C Rt (Nat.le_refl 0) (Nat.le_refl 0) ⟨fun _ => ⟨rfl, _, rfl⟩, fun g => absurd (zlt (by omega) g) (by omega)⟩
  | succ m ih =>
    intro i x h1 h2 h3
    refine B_X1_leastDifference_7 C Rt (Nat.le_refl 0) (Nat.le_refl 0) ⟨fun _ => ⟨rfl, _, rfl⟩, fun g => ?_⟩
    have g2 := zlt (by omega) g
    rw [pk_sub (by omega), nI_add]
    exact t_cnG X hk (t_cnL X hk (by omega) fun _ => t_cnG X hk (t_cnL X hk (by omega) fun _ => ih (i + 1) _ (by omega) (by omega) (by omega)))
theorem k_X1_widthOf (X : zX K ad sw rw T h) {k a e : Nat} {y : Int64} (hk : zC k) (ha : 1 ≤ a) (ha2 : a < 2 ^ 30) (he : e ≤ 2000) : zm_Ct K M_X1_widthOf [.ref (ad k), .int (nI a), .int (nI e), .long y] h (fun v h' => h' = h ∧ ∃ y : Int32, v = some (.int y)) := by
  refine zm_meet (by decide) (Nat.le_of_ble_eq_true rfl) ?_
  intro E C Rt _
  refine B_X1_widthOf_0 C Rt ?_
  suffices key : ∀ (m i : Nat) (x : Int64), 1 ≤ i → i < 2 ^ 30 → 2001 < m + i → zm_Go E 0 0 6 [(0, .ref (ad k)), (2, .int (nI e)), (3, .long y), (5, .long x), (7, .int (nI i))] [] h from key 2001 a _ ha ha2 (by omega)
  intro m
  induction m with
  | zero =>
    intro i x h1 h2 h3
    exact B_X1_widthOf_6 C Rt (Nat.le_refl 0) (Nat.le_refl 0) ⟨fun _ => t_bitsOf fun z => ⟨rfl, z, rfl⟩, fun g => absurd (zlt (by omega) g) (by omega)⟩
  | succ m ih =>
    intro i x h1 h2 h3
    refine B_X1_widthOf_6 C Rt (Nat.le_refl 0) (Nat.le_refl 0) ⟨fun _ => t_bitsOf fun z => ⟨rfl, z, rfl⟩, fun g => ?_⟩
    have g2 := zlt (by omega) g
    rw [pk_sub (by omega), nI_add]
    exact t_cnG X hk (t_cnL X hk (by omega) fun _ => t_cnG X hk (t_cnL X hk (by omega) fun _ => ih (i + 1) _ (by omega) (by omega) (by omega)))
theorem t_bsz (X : zX K ad sw rw T h) {o cap : Nat} (ho : zW o cap) {F : Int32 → Prop} (hF : ∀ y, F y) : zm_gI h (ad o) 0 1 F := by
  obtain ⟨ne, hc, s, t, hs, h1, h2, hid, st⟩ := X.bytes ho
  simp only [zm_gI, h1, List.getElem?_cons_zero, List.getElem?_cons_succ, true_and]
  exact hF _
theorem k_X1_writePart (X : zX K ad sw rw T h) {k o cap a e : Nat} {x : Int32} {y : Int64} (hk : zC k) (ho : zW o cap) (ha : 1 ≤ a) (ha2 : a < 2 ^ 30) (he : e ≤ 2000) : zm_Ct K M_X1_writePart [.ref (ad k), .ref (ad o), .int (nI a), .int (nI e), .int x, .long y] h (poX K ad sw rw T) := by
  refine zm_meet (by decide) (Nat.le_of_ble_eq_true rfl) ?_
  intro E C Rt _
  refine B_X1_writePart_0 C Rt (Nat.le_refl 0) (Nat.le_refl 0) (t_bsz X ho fun b => t_putZeros X ho fun h1 X1 => ?_)
  suffices key : ∀ (m i : Nat) (h : zm_H), zX K ad sw rw T h → 1 ≤ i → i < 2 ^ 30 → 2001 < m + i → zm_Go E 0 0 17 [(0, .ref (ad k)), (1, .ref (ad o)), (2, .int (nI a)), (3, .int (nI e)), (4, .int x), (5, .long y), (7, .int b), (8, .int (nI i))] [] h from key 2001 a h1 X1 ha ha2 (by omega)
  intro m
  induction m with
  | zero =>
    intro i h X h1 h2 h3
    exact B_X1_writePart_17 C Rt (Nat.le_refl 0) (Nat.le_refl 0) ⟨fun _ => ⟨rfl, X⟩, fun g => absurd (zlt (by omega) g) (by omega)⟩
  | succ m ih =>
    intro i h X h1 h2 h3
    refine B_X1_writePart_17 C Rt (Nat.le_refl 0) (Nat.le_refl 0) ⟨fun _ => ⟨rfl, X⟩, fun g => ?_⟩
    have g2 := zlt (by omega) g
    rw [pk_sub (show 1 ≤ i by omega), nI_add]
    exact t_cnG X hk (t_cnL X hk (by omega) fun _ => t_cnG X hk (t_cnL X hk (by omega) fun _ => t_setBits X ho fun h' X' => ih (i + 1) h' X' (by omega) (by omega) (by omega)))
theorem k_X1_writeBlock (X : zX K ad sw rw T h) {k o cap a e : Nat} (hk : zC k) (ho : zW o cap) (ha : 1 ≤ a) (ha2 : a ≤ 2000) (he : e ≤ 2000) : zm_Ct K M_X1_writeBlock [.ref (ad k), .ref (ad o), .int (nI a), .int (nI e)] h (poX K ad sw rw T) := by
  refine zm_meet (by decide) (Nat.le_of_ble_eq_true rfl) ?_
  intro E C Rt _
  refine B_X1_writeBlock_0 C Rt (Nat.le_refl 0) (Nat.le_refl 0) ⟨t_crc X hk, _, k_X1_leastDifference X hk ha (by omega) he, fun v h' q => ?_⟩
  obtain ⟨rfl, y, rfl⟩ := q
  refine ⟨y, rfl, t_zig fun z => t_putVarint X ho fun h1 X1 => ?_⟩
  have part2 : ∀ (m i : Nat) (h : zm_H), zX K ad sw rw T h → 4 < m + i → i ≤ 4 → zm_Go E 0 0 79 [(0, .ref (ad k)), (1, .ref (ad o)), (2, .int (nI a)), (3, .int (nI e)), (4, .long y), (6, .int (nI i))] [] h := by
    intro m
    induction m with
    | zero => intro i h X h1 h2; omega
    | succ m ih =>
      intro i h X h1 h2
      refine B_X1_writeBlock_79 C Rt (Nat.le_refl 0) (Nat.le_refl 0) ⟨fun _ => ⟨rfl, X⟩, fun g => ?_⟩
      have g2 := zlt (by omega) g
      rw [pk_mul, nI_add, nI_add, zmin (by omega) (by omega), nI_add]
      exact t_cwG X hk (t_cwL X hk g2 fun w => ⟨t_crc X hk, t_cv (k_X1_writePart X hk ho (by omega) (by omega) (by omega)) fun h' X' => ih (i + 1) h' X' (by omega) (by omega)⟩)
  suffices key : ∀ (m i : Nat) (h : zm_H), zX K ad sw rw T h → 4 < m + i → i ≤ 4 → zm_Go E 0 0 20 [(0, .ref (ad k)), (1, .ref (ad o)), (2, .int (nI a)), (3, .int (nI e)), (4, .long y), (6, .int (nI i))] [] h from key 5 0 h1 X1 (by omega) (by omega)
  intro m
  induction m with
  | zero => intro i h X h1 h2; omega
  | succ m ih =>
    intro i h X h1 h2
    refine B_X1_writeBlock_20 C Rt (Nat.le_refl 0) (Nat.le_refl 0) ⟨fun _ => part2 5 0 h X (by omega) (by omega), fun g => ?_⟩
    have g2 := zlt (by omega) g
    rw [pk_mul, nI_add, nI_add, zmin (by omega) (by omega), nI_add]
    refine t_cwG X hk ⟨t_crc X hk, _, k_X1_widthOf X hk (by omega) (by omega) (by omega), fun v h' q => ?_⟩
    obtain ⟨rfl, w, rfl⟩ := q
    exact ⟨w, rfl, t_cwS X hk g2 fun h2 X2 => t_cwG X2 hk (t_cwL X2 hk g2 fun w => t_put X2 ho fun h3 X3 => ih (i + 1) h3 X3 (by omega) (by omega))⟩
theorem k_X1_writeOn (X : zX K ad sw rw T h) {k o cap : Nat} (hk : zC k) (ho : zW o cap) : zm_Ct K M_X1_writeOn [.ref (ad k), .ref (ad o)] h (poX K ad sw rw T) := by
  refine zm_meet (by decide) (Nat.le_of_ble_eq_true rfl) ?_
  intro E C Rt _
  have key : ∀ (m i : Nat) (h : zm_H), zX K ad sw rw T h → 1 ≤ i → i ≤ 2064 → 2064 < m + i → zm_Go E 0 0 31 [(0, .ref (ad k)), (1, .ref (ad o)), (2, .int (nI i))] [] h := by
    intro m
    induction m with
    | zero => intro i h X h1 h2 h3; omega
    | succ m ih =>
      intro i h X h1 h2 h3
      refine B_X1_writeOn_31 C Rt (Nat.le_refl 0) (Nat.le_refl 0) (t_ccG X hk fun c hc => ⟨fun _ => ⟨rfl, X⟩, fun g => t_ccG X hk fun c2 hc2 => ?_⟩)
      have g2 := zlt (by omega) g
      rw [nI_add, zmin (by omega) (by omega)]
      exact ⟨t_crc X hk, t_cv (k_X1_writeBlock X hk ho (by omega) (by omega) (by omega)) fun h' X' => ih (i + 64) h' X' (by omega) (by omega) (by omega)⟩
  refine B_X1_writeOn_0 C Rt (Nat.le_refl 0) (Nat.le_refl 0) (t_ccG X hk fun c hc => t_putVarint X ho fun h1 X1 => t_ccG X1 hk fun c2 hc2 => ⟨fun _ => key 2064 1 h1 X1 (by omega) (by omega) (by omega), fun _ => t_cnG X1 hk ?_⟩)
  exact t_cnL X1 hk (by omega) fun x => t_zig fun z => t_putVarint X1 ho fun h3 X3 => key 2064 1 h3 X3 (by omega) (by omega) (by omega)
end ZZ
