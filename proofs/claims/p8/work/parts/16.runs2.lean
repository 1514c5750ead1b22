section ZR6
variable {K : zm_K} {ad : Nat → Nat} {sw rw : Bool} {T : Nat} {h : zm_H}
/-- only the Scan changed -/
def zFr (ad : Nat → Nat) (h h' : zm_H) : Prop := ∀ q, q ≠ ad 28 → h' q = h q
theorem zFr.rn (X : zX K ad sw rw T h) {h' : zm_H} {c : Nat} (f : zFr ad h h') (hc : zRn ad h c) : zRn ad h' c := (f _ (X.ne (by decide) (by decide) (by decide))).trans hc
/-- there is a fault -/
def zFt (ad : Nat → Nat) (h : zm_H) : Prop := ∃ a at9 lim flt, (¬ flt = 0) ∧ h (ad 28) = some (.inr (7, [.ref a, .int at9, .int lim, .int flt]))
theorem u_varint (X : zX K ad sw rw T h) {F : Int64 → zm_H → Prop} (hF : ∀ y h', zX K ad sw rw T h' → zFr ad h h' → F y h') : zm_rc h (ad 28) 7 ∧ zm_cl K M_X7_varint [.ref (ad 28)] h F := by
  refine ⟨t_src X, ?_⟩
  obtain ⟨j, at9, lim, flt, n, t, hj, j32, ne, hn, h1, h2, hid, st⟩ := X.scan
  have M := k_X7_varint (K := K) (h := h) (at9 := at9) (lim := lim) (flt := flt) h2 (by omega) ne
  rw [hid] at M
  refine ⟨_, M, fun v h' q => ?_⟩
  obtain ⟨⟨y, rfl⟩, a2, f2, rfl⟩ := q
  exact ⟨y, rfl, hF y _ (st _ _ _) (fun q hq => zhS_q hq)⟩
theorem u_holds (X : zX K ad sw rw T h) {x : Int64} {F : Int32 → zm_H → Prop} (hF : ∀ y h', zX K ad sw rw T h' → zFr ad h h' → F y h') : zm_rc h (ad 28) 7 ∧ zm_ci K M_X7_holds [.ref (ad 28), .long x] h F := by
  refine ⟨t_src X, ?_⟩
  obtain ⟨j, at9, lim, flt, n, t, hj, j32, ne, hn, h1, h2, hid, st⟩ := X.scan
  have M := k_X7_holds (K := K) (h := h) (s := ad 28) (ca := ad j) (at9 := at9) (lim := lim) (flt := flt) (x := x)
  rw [hid] at M
  refine ⟨_, M, fun v h' q => ?_⟩
  obtain ⟨⟨y, rfl⟩, f2, rfl⟩ := q
  exact ⟨y, rfl, hF y _ (st _ _ _) (fun q hq => zhS_q hq)⟩
theorem u_fail (X : zX K ad sw rw T h) {x : Int32} (hx : ¬ x = 0) {F : zm_H → Prop} (hF : ∀ h', zX K ad sw rw T h' → zFr ad h h' → zFt ad h' → F h') : zm_rc h (ad 28) 7 ∧ zm_cv K M_X7_fail [.ref (ad 28), .int x] h F := by
  refine ⟨t_src X, ?_⟩
  obtain ⟨j, at9, lim, flt, n, t, hj, j32, ne, hn, h1, h2, hid, st⟩ := X.scan
  have M := k_X7_fail (K := K) (h := h) (s := ad 28) (ca := ad j) (at9 := at9) (lim := lim) (flt := flt) (x := x)
  rw [hid] at M
  refine ⟨_, M, fun v h' q => ?_⟩
  obtain ⟨rfl, rfl⟩ := q
  refine ⟨rfl, hF _ (st _ _ _) (fun q hq => zhS_q hq) ⟨_, _, _, _, ?_, zhS_s⟩⟩
  split
  · exact hx
  · rename_i g
    exact g
theorem u_failed (X : zX K ad sw rw T h) (Z : zFt ad h) {F : Int32 → zm_H → Prop} (hF : F (nI 1) h) : zm_rc h (ad 28) 7 ∧ zm_ci K M_X7_failed [.ref (ad 28)] h F := by
  refine ⟨t_src X, ?_⟩
  obtain ⟨a, at9, lim, flt, nz, h1⟩ := Z
  have hid : zhS h (ad 28) a at9 lim flt = h := by
    funext q
    by_cases hq : q = ad 28
    · subst hq
      rw [zhS_s, h1]
    · rw [zhS_q hq]
  have M := k_X7_failed (K := K) (h := h) (s := ad 28) (ca := a) (at9 := at9) (lim := lim) (flt := flt)
  rw [hid] at M
  refine ⟨_, M, fun v h' q => ?_⟩
  obtain ⟨rfl, ⟨e, rfl⟩ | ⟨_, rfl⟩⟩ := q
  · exact absurd e nz
  · exact ⟨_, rfl, hF⟩
theorem k_X6_readOne (X : zX K ad sw rw T h) {c m : Nat} {x : Int32} (hc : zRn ad h c) (hm : c + m ≤ 1000) : zm_Ct K M_X6_readOne [.ref (ad 19), .ref (ad 28), .int (nI m), .int x] h (poX K ad sw rw T) := by
  refine zm_meet (by decide) (Nat.le_of_ble_eq_true rfl) ?_
  intro E C Rt _
  have key : ∀ (w : Int32) (y : Int64) (f i : Nat) (h : zm_H), zX K ad sw rw T h → i ≤ m → zRn ad h (c + i) → m < f + i → zm_Go E 0 0 53 [(0, .ref (ad 19)), (1, .ref (ad 28)), (2, .int (nI m)), (4, .int w), (5, .long y), (7, .int (nI i))] [] h := by
    intro w y f
    induction f with
    | zero => intro i h X h1 h2 h3; omega
    | succ f ih =>
      intro i h X h1 h2 h3
      refine B_X6_readOne_53 C Rt (Nat.le_refl 0) (Nat.le_refl 0) ⟨fun _ => t_satG X fun y => t_satP X fun h' X' => ⟨rfl, X'⟩, fun g => ?_⟩
      have g2 := zlt (by omega) g
      refine t_rnG X (t_rcGx h2 (t_rnS X (by omega) h2 fun h' X' hc' => t_rcGx hc' ?_))
      rw [nI_add, nI_add]
      exact t_rcP X' (by omega) fun h'' X'' hc'' => ih (i + 1) h'' X'' (by omega) hc'' (by omega)
  refine B_X6_readOne_0 C Rt (Nat.le_refl 0) (Nat.le_refl 0) ⟨by decide, u_holds X fun v h1 X1 f1 => ⟨fun _ => t_bitsAt X1 fun b => ⟨fun _ => t_bitsAt X1 fun y => ?_, fun _ => u_fail X1 (by decide) fun h2 X2 f2 _ => t_bitsAt X2 fun y => ?_⟩, fun _ => ⟨rfl, X1⟩⟩⟩
  · exact key _ y (m + 1) 0 h1 X1 (by omega) (f1.rn X hc) (by omega)
  · exact key _ y (m + 1) 0 h2 X2 (by omega) (f2.rn X1 (f1.rn X hc)) (by omega)
theorem k_X6_readGroups (X : zX K ad sw rw T h) {c g m : Nat} {x : Int32} (hc : zRn ad h c) (hm : c + m ≤ 1000) (hg : g ≤ 1000) : zm_Ct K M_X6_readGroups [.ref (ad 19), .ref (ad 28), .int (nI g), .int (nI m), .int x] h (poX K ad sw rw T) := by
  refine zm_meet (by decide) (Nat.le_of_ble_eq_true rfl) ?_
  intro E C Rt _
  have key : ∀ (f i : Nat) (h : zm_H), zX K ad sw rw T h → i ≤ 8000 → zRn ad h (c + min i m) → 8000 < f + i → zm_Go E 0 0 16 [(0, .ref (ad 19)), (1, .ref (ad 28)), (2, .int (nI g)), (3, .int (nI m)), (4, .int x), (5, .int (nI i))] [] h := by
    intro f
    induction f with
    | zero => intro i h X h1 h2 h3; omega
    | succ f ih =>
      intro i h X h1 h2 h3
      refine B_X6_readGroups_16 C Rt (Nat.le_refl 0) (Nat.le_refl 0) ⟨fun _ => t_satG X fun y => t_satP X fun h' X' => ⟨rfl, X'⟩, fun g0 => ?_⟩
      rw [pk_mul] at g0
      have g2 := zlt (by omega) g0
      refine t_bitsAt X fun v => ⟨fun g3 => ?_, fun g3 => ?_⟩
      · have g4 := (nI_leI (by omega) (by omega)).mp g3
        rw [nI_add]
        refine ⟨fun _ => ih (i + 1) h X (by omega) ?_ (by omega), fun _ => u_fail X (by decide) fun h' X' f' _ => ih (i + 1) h' X' (by omega) ?_ (by omega)⟩
        · rw [show min (i + 1) m = min i m by omega]
          exact h2
        · rw [show min (i + 1) m = min i m by omega]
          exact f'.rn X h2
      · have g4 := zlt (by omega) g3
        refine t_rnG X (t_rcGx h2 (t_rnS X (by omega) h2 fun h' X' hc' => t_rcGx hc' ?_))
        rw [nI_add, nI_add]
        refine t_rcP X' (by omega) fun h'' X'' hc'' => ih (i + 1) h'' X'' (by omega) ?_ (by omega)
        rw [show c + min (i + 1) m = c + min i m + 1 by omega]
        exact hc''
  refine B_X6_readGroups_0 C Rt (Nat.le_refl 0) (Nat.le_refl 0) (u_holds X fun v h1 X1 f1 => ⟨fun _ => key 8001 0 h1 X1 (by omega) ?_ (by omega), fun _ => ⟨rfl, X1⟩⟩)
  rw [show c + min 0 m = c by omega]
  exact f1.rn X hc
theorem zlc {k m : Nat} (hk : k < 2 ^ 63) (hm : m < 2 ^ 31) (g : lg_cmp (lN k) (nI m).toInt64 ≤ 0) : k ≤ m := by
  have g2 := (lg_cmp_le _ _).mp g
  rw [nI_l hm] at g2
  exact (pk_lLE hk (by omega)).mp g2
theorem k_X6_readRun (X : zX K ad sw rw T h) {c n : Nat} {x : Int32} (hc : zRn ad h c) (hcn : c ≤ n) (hn : n ≤ 1000) : zm_Ct K M_X6_readRun [.ref (ad 19), .ref (ad 28), .int (nI n), .int x] h (poX K ad sw rw T) := by
  refine zm_meet (by decide) (Nat.le_of_ble_eq_true rfl) ?_
  intro E C Rt _
  have e129 : ∀ (h : zm_H), zX K ad sw rw T h → zm_Go E 0 0 129 [] [] h := fun h X => B_X6_readRun_129 C Rt (Nat.le_refl 0) (Nat.le_refl 0) ⟨rfl, X⟩
  have bad : ∀ (l : Int64) (i8 i9 : Int32) (h : zm_H), zX K ad sw rw T h → zFt ad h → zm_Go E 0 0 93 [(0, .ref (ad 19)), (1, .ref (ad 28)), (3, .int x), (6, .long l), (8, .int i8), (9, .int i9)] [] h := fun l i8 i9 h X Z => B_X6_readRun_93 C Rt (Nat.le_refl 0) (Nat.le_refl 0) (u_failed X Z ⟨fun z => absurd z (by decide), fun _ => ⟨rfl, X⟩⟩)
  have one : ∀ (k : Nat) (i8 : Int32) (h : zm_H), zX K ad sw rw T h → zRn ad h c → k ≤ n - c → zm_Go E 0 0 93 [(0, .ref (ad 19)), (1, .ref (ad 28)), (3, .int x), (6, .long (lN k)), (8, .int i8), (9, .int (nI 1))] [] h := by
    intro k i8 h X hc hk
    refine B_X6_readRun_93 C Rt (Nat.le_refl 0) (Nat.le_refl 0) (t_failed X fun v => ⟨fun _ => ⟨fun z => absurd z (by decide), fun _ => ?_⟩, fun _ => ⟨rfl, X⟩⟩)
    rw [lN_i]
    exact ⟨t_rrc X, t_cv (k_X6_readOne X hc (by omega)) fun h' X' => e129 h' X'⟩
  have grp : ∀ (k : Nat) (h : zm_H), zX K ad sw rw T h → zRn ad h c → k ≤ 1000 → zm_Go E 0 0 93 [(0, .ref (ad 19)), (1, .ref (ad 28)), (3, .int x), (6, .long (lN k)), (8, .int (nI (n - c))), (9, .int (nI 0))] [] h := by
    intro k h X hc hk
    refine B_X6_readRun_93 C Rt (Nat.le_refl 0) (Nat.le_refl 0) (t_failed X fun v => ⟨fun _ => ⟨fun _ => ?_, fun z => absurd rfl z⟩, fun _ => ⟨rfl, X⟩⟩)
    rw [lN_i]
    exact ⟨t_rrc X, t_cv (k_X6_readGroups X hc (by omega) hk) fun h' X' => e129 h' X'⟩
  refine B_X6_readRun_0 C Rt (Nat.le_refl 0) (Nat.le_refl 0) (u_varint X fun v h1 X1 f1 => t_rcGx (f1.rn X hc) ?_)
  obtain ⟨k, hk, rfl⟩ := wb_of v
  have hc1 := f1.rn X hc
  rw [wb_shr hk (by decide), zmin (show 1000 < 2 ^ 31 by decide) (show n < 2 ^ 31 by omega), Nat.min_eq_right hn, pk_sub hcn, nI_add, pk_sub (by omega), pk_div (by omega) (by decide) (by decide)]
  have hk2 : k / 2 ^ 1 < 2 ^ 63 := by omega
  refine ⟨fun _ => ⟨fun _ => ⟨by decide, fun _ => ⟨fun g => grp _ h1 X1 hc1 ?_, fun _ => u_fail X1 (by decide) fun h2 X2 f2 Z2 => bad _ _ _ h2 X2 Z2⟩, fun _ => u_fail X1 (by decide) fun h2 X2 f2 Z2 => bad _ _ _ h2 X2 Z2⟩, fun z => absurd rfl z⟩, fun _ => ⟨fun z => absurd z (by decide), fun _ => ⟨fun _ => ⟨fun g => one _ _ h1 X1 hc1 (zlc hk2 (by omega) g), fun _ => u_fail X1 (by decide) fun h2 X2 f2 Z2 => bad _ _ _ h2 X2 Z2⟩, fun _ => u_fail X1 (by decide) fun h2 X2 f2 Z2 => bad _ _ _ h2 X2 Z2⟩⟩⟩
  have := zlc hk2 (by omega) g
  omega
theorem k_X6_readFrom (X : zX K ad sw rw T h) {n : Nat} {x : Int32} (hn : n ≤ 1000) : zm_Ct K M_X6_readFrom [.ref (ad 19), .ref (ad 28), .int (nI n), .int x] h (poX K ad sw rw T) := by
  refine zm_meet (by decide) (Nat.le_of_ble_eq_true rfl) ?_
  intro E C Rt _
  have key : ∀ (f i : Nat) (h : zm_H), zX K ad sw rw T h → i ≤ 1000 → 1000 < f + i → zm_Go E 0 0 8 [(0, .ref (ad 19)), (1, .ref (ad 28)), (2, .int (nI n)), (3, .int x), (4, .int (nI i))] [] h := by
    intro f
    induction f with
    | zero => intro i h X h1 h2; omega
    | succ f ih =>
      intro i h X h1 h2
      refine B_X6_readFrom_8 C Rt (Nat.le_refl 0) (Nat.le_refl 0) ⟨fun _ => ⟨rfl, X⟩, fun g => t_rcG X fun c hc hcx => ⟨fun _ => ⟨rfl, X⟩, fun g2 => t_failed X fun v => ⟨fun _ => ⟨rfl, X⟩, fun _ => ?_⟩⟩⟩
      have g3 := zlt (by omega) g
      have g4 := zlt (by omega) g2
      rw [nI_add]
      exact ⟨t_rrc X, t_cv (k_X6_readRun X hcx (by omega) hn) fun h' X' => ih (i + 1) h' X' (by omega) (by omega)⟩
  exact B_X6_readFrom_0 C Rt (t_rcP X (Nat.zero_le _) fun h1 X1 _ => key 1001 0 h1 X1 (by omega) (by omega))
end ZR6
