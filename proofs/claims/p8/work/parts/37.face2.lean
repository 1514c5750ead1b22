section ZT2
variable {K : zm_K} {ad : Nat → Nat} {sw rw : Bool} {T : Nat} {h : zm_H}
theorem t_8cP (X : zX K ad sw rw T h) {r c : Nat} (hr : zV r) (hc : c ≤ 1000) {F : zm_H → Prop} (hF : ∀ h', zX K ad sw rw T h' → F h') : zm_pf h (ad r) 5 2 (.int (nI c)) F := by
  obtain ⟨c0, f, t, h1, -⟩ := X.row hr
  simp only [zm_pf, h1, List.set_cons_zero, List.set_cons_succ, List.length_cons, List.length_nil, true_and]
  refine ⟨by decide, hF _ ?_⟩
  rcases hr with rfl | rfl
  · exact X.set 7 (by decide) ⟨c, hc, rfl⟩
  · exact X.set 10 (by decide) ⟨c, hc, rfl⟩
theorem t_bszG (X : zX K ad sw rw T h) {F : Int32 → Prop} (hF : ∀ s, s ≤ 24000 → h (ad 1) = some (.inr (0, [.ref (ad 2), .int (nI s)])) → F (nI s)) : zm_gI h (ad 1) 0 1 F := by
  obtain ⟨_, h1, s, hs, rfl⟩ := X.2 1 (by decide)
  simp only [zm_gI, h1, List.getElem?_cons_zero, List.getElem?_cons_succ, true_and]
  exact hF s hs h1
/-- the input changes -/
theorem zX.inset (X : zX K ad sw rw T h) {s : Nat} (hs : s ≤ 24000) (t' : Nat → Nat) : zX K ad sw rw T (zhB K h (ad (zIp sw)) (ad (zIp sw + 1)) 24000 (t', s)) := by
  refine ⟨X.1, fun k hk => ?_⟩
  have o32 : zIp sw < 32 ∧ zIp sw + 1 < 32 := by cases sw <;> decide
  by_cases h1 : k = zIp sw
  · subst h1
    refine ⟨_, zhB_b, ?_⟩
    cases sw
    · exact ⟨s, hs, fun z => absurd z (by decide), rfl⟩
    · exact ⟨s, hs, fun z => absurd z (by decide), rfl⟩
  · by_cases h2 : k = zIp sw + 1
    · subst h2
      refine ⟨_, zhB_a (X.ne o32.2 o32.1 (by omega)), ?_⟩
      cases sw
      · exact ⟨t', rfl⟩
      · exact ⟨t', rfl⟩
    · rw [zhB_q (X.ne hk o32.1 h1) (X.ne hk o32.2 h2)]
      exact X.2 k hk
theorem t_8rd (X : zX K ad sw rw T h) {M : zm_M} {as : List Value} {F : Int32 → zm_H → Prop} (hM : zm_Ct K M as h (fun v h' => h' = h ∧ ∃ y : Int32, v = some (.int y))) (hF : ∀ y, F y h) : zm_ci K M as h F := ⟨_, hM, fun r h' q => by
  obtain ⟨rfl, y, rfl⟩ := q
  exact ⟨y, rfl, hF y⟩⟩
theorem k_X8_size (X : zX K ad sw rw T h) : zm_Ct K M_X8_size [.ref (ad 0)] h (poXi K ad sw rw T) := by
  refine zm_meet (by decide) (Nat.le_of_ble_eq_true rfl) ?_
  intro E C Rt _
  exact B_X8_size_0 C Rt (Nat.le_refl 0) (Nat.le_refl 0) (t_85 X (t_wcG X (zRo_v rw) fun c f t _ => ⟨⟨_, rfl⟩, X⟩))
theorem k_X8_clear (X : zX K ad sw rw T h) : zm_Ct K M_X8_clear [.ref (ad 0)] h (poX K ad sw rw T) := by
  refine zm_meet (by decide) (Nat.le_of_ble_eq_true rfl) ?_
  intro E C Rt _
  exact B_X8_clear_0 C Rt (Nat.le_refl 0) (Nat.le_refl 0) (t_85 X (t_8cP X (zRo_v rw) (by decide) fun h' X' => ⟨rfl, X'⟩))
theorem k_X8_length (X : zX K ad sw rw T h) {x : Int32} : zm_Ct K M_X8_length [.ref (ad 0), .int x] h (poXi K ad sw rw T) := by
  refine zm_meet (by decide) (Nat.le_of_ble_eq_true rfl) ?_
  intro E C Rt _
  obtain ⟨c, f, t, R⟩ := X.row (zRo_v rw)
  refine B_X8_length_0 C Rt (Nat.le_refl 0) (Nat.le_refl 0) (t_85 X ⟨t_wrc X (zRo_v rw), _, k_X5_has R, fun r h' q => ?_⟩)
  obtain ⟨rfl, q⟩ := q
  have fin : ∀ y : Int32, (y = 0 → poXi K ad sw rw T (some (.int (-1))) h') ∧ (¬ y = 0 → zm_gR h' (ad 0) 8 5 fun v3 => zm_rc h' v3 5 ∧ zm_ci K M_X5_lengthOf [.ref v3, .int x] h' fun v4 h2 => poXi K ad sw rw T (some (.int v4)) h2) := fun y => ⟨fun _ => ⟨⟨_, rfl⟩, X⟩, fun _ => t_85 X (t_lengthOf X (zRo_v rw) fun y2 => ⟨⟨_, rfl⟩, X⟩)⟩
  rcases q with ⟨j, _, _, rfl⟩ | ⟨_, rfl⟩
  · exact ⟨_, rfl, fin _⟩
  · exact ⟨_, rfl, fin _⟩
theorem k_X8_byteOf (X : zX K ad sw rw T h) {x y : Int32} : zm_Ct K M_X8_byteOf [.ref (ad 0), .int x, .int y] h (poXi K ad sw rw T) := by
  refine zm_meet (by decide) (Nat.le_of_ble_eq_true rfl) ?_
  intro E C Rt _
  obtain ⟨c, f, t, R⟩ := X.row (zRo_v rw)
  have no : ∀ z : Int32, poXi K ad sw rw T (some (.int z)) h := fun z => ⟨⟨_, rfl⟩, X⟩
  refine B_X8_byteOf_0 C Rt (Nat.le_refl 0) (Nat.le_refl 0) (t_85 X ⟨t_wrc X (zRo_v rw), _, k_X5_has R, fun r h' q => ?_⟩)
  obtain ⟨rfl, q⟩ := q
  rcases q with ⟨j, hj, rfl, rfl⟩ | ⟨_, rfl⟩
  · refine ⟨_, rfl, fun _ => no _, fun _ => ⟨fun _ => no _, fun g0 => t_85 X ⟨t_wrc X (zRo_v rw), _, k_X5_lengthOf R, fun r h2 q => ?_⟩⟩⟩
    obtain ⟨rfl, q⟩ := q
    obtain ⟨hr, hcb, hs, hc1, hf⟩ := R
    rcases q with ⟨i, hi, ei, rfl⟩ | ⟨_, rfl⟩
    · have eij : i = j := ((nI_eq (by omega) (by omega)).mp ei).symm
      subst eij
      refine ⟨_, rfl, fun g1 => ?_, fun _ => no _⟩
      obtain ⟨k, hk, rfl⟩ := nI_of g0
      have hfi := hf i
      have hfi1 := hf (i + 1)
      have hlt : f i + k < f (i + 1) := by
        rw [Int32.lt_iff_toInt_lt, zsubI (by omega) (by omega), nI_toInt hk] at g1
        omega
      refine t_85 X (t_wbG X (zRo_v rw) (t_85 X (t_wsG X (zRo_v rw) ?_)))
      unfold zI at hs
      unfold zB at hcb
      have hin : vp_in (nI i) 1001 := vp_in_nI (by omega) (by decide)
      have hcl : (nI i).toNatClampNeg = i := nI_clamp (by omega)
      have hin2 : vp_in (nI (f i + k)) 20000 := vp_in_nI (by omega) (by decide)
      simp only [zm_ld, hs, hcb, hin, hcl, nI_add, hin2, true_and]
      exact no _
    · exact ⟨_, rfl, fun g1 => absurd g1 (fun z => g0 z), fun _ => no _⟩
  · exact ⟨_, rfl, fun _ => no _, fun z => absurd rfl z⟩
theorem k_X8_output (X : zX K ad sw rw T h) {x : Int32} : zm_Ct K M_X8_output [.ref (ad 0), .int x] h (poXi K ad sw rw T) := by
  refine zm_meet (by decide) (Nat.le_of_ble_eq_true rfl) ?_
  intro E C Rt _
  have no : ∀ z : Int32, poXi K ad sw rw T (some (.int z)) h := fun z => ⟨⟨_, rfl⟩, X⟩
  refine B_X8_output_0 C Rt (Nat.le_refl 0) (Nat.le_refl 0) ⟨fun _ => no _, fun g0 => t_80 X (t_bszG X fun s hs h1 => ⟨fun g1 => t_80 X (t_bcG X zW1 ?_), fun _ => no _⟩)⟩
  obtain ⟨k, hk, rfl⟩ := zix g0 g1 (by omega)
  obtain ⟨_, h2, t, rfl⟩ := X.2 2 (by decide)
  unfold zB at h2
  have hin : vp_in (nI k) 24000 := vp_in_nI (by omega) (by decide)
  simp only [zm_ld, h2, hin, true_and]
  exact no _
theorem k_X8_turn (X : zX K ad sw rw T h) : zm_Ct K M_X8_turn [.ref (ad 0)] h (fun r h' => r = some (.int (nI 1)) ∧ zX K ad sw rw T h') := by
  refine zm_meet (by decide) (Nat.le_of_ble_eq_true rfl) ?_
  intro E C Rt _
  refine B_X8_turn_0 C Rt (Nat.le_refl 0) (Nat.le_refl 0) (t_80 X (t_bszG X fun s hs h1 => ⟨fun _ => t_84 X ?_, fun q => absurd (nI_le hs (by decide)) q⟩))
  obtain ⟨s1, t1, hs1, e1, e2⟩ := X.inp (zIp_u sw)
  have o32 : zIp sw < 32 ∧ zIp sw + 1 < 32 := by cases sw <;> decide
  have o2 : 2 ≠ zIp sw ∧ 2 ≠ zIp sw + 1 := by cases sw <;> decide
  have X1 := X.inset (s := 0) (by decide) t1
  have eh : zhB K h (ad (zIp sw)) (ad (zIp sw + 1)) 24000 (t1, 0) = zm_set h (ad (zIp sw)) (.inr (0, [.ref (ad (zIp sw + 1)), .int (nI 0)])) := by
    funext q
    by_cases q1 : q = ad (zIp sw)
    · subst q1
      rw [zhB_b, zm_set_s]
    · by_cases q2 : q = ad (zIp sw + 1)
      · subst q2
        rw [zhB_a q1, zm_set_n q1, e2]
      · rw [zhB_q q1 q2, zm_set_n q1]
  simp only [zm_pf, e1, List.set_cons_zero, List.set_cons_succ, List.length_cons, List.length_nil, true_and]
  refine ⟨by decide, ?_⟩
  rw [← eh]
  obtain ⟨_, h2, t2, rfl⟩ := X.2 2 (by decide)
  refine t_84 X1 (t_80 X1 (t_bcG X1 zW1 (t_80 X1 (t_bszG X1 fun s2 hs2 _ => ?_))))
  have M := k_X0_putAll (K := K) (h := h) (b := ad (zIp sw)) (a := ad (zIp sw + 1)) (n := 24000) (src := ad 2) (n2 := 24000) (t2 := t2) (s := (t1, 0)) (x2 := nI 0) (x3 := nI s2) (X.ne o32.2 o32.1 (by omega)) (by decide) (Nat.zero_le _) (X.ne (by decide) o32.2 o2.2) (X.ne (by decide) o32.1 o2.1) h2 (by decide)
  refine ⟨by simp only [zm_rc, zhB_b], _, M, fun r h' q => ?_⟩
  obtain ⟨rfl, s', hs', rfl⟩ := q
  refine ⟨rfl, rfl, ?_⟩
  exact X.inset (s := s'.2) hs' s'.1
theorem k_X8_write (X : zX K ad sw rw T h) {x : Int32} : zm_Ct K M_X8_write [.ref (ad 0), .int x] h (poXi K ad sw rw T) := by
  refine zm_meet (by decide) (Nat.le_of_ble_eq_true rfl) ?_
  intro E C Rt _
  refine B_X8_write_0 C Rt (Nat.le_refl 0) (Nat.le_refl 0) (t_80 X (t_bszP X zW1 (by decide) fun h1 X1 => ?_))
  have call : ∀ (M : zm_M), (∀ h2, zX K ad sw rw T h2 → zm_Ct K M [.ref (ad 21), .ref (ad (zRo rw)), .ref (ad 1)] h2 (poX K ad sw rw T)) → zm_gR h1 (ad 0) 8 1 fun v2 => zm_gR h1 (ad 0) 8 5 fun v3 => zm_gR h1 (ad 0) 8 0 fun v4 => zm_rc h1 v2 3 ∧ zm_cv K M [.ref v2, .ref v3, .ref v4] h1 fun h2 => zm_gR h2 (ad 0) 8 0 fun v5 => zm_gI h2 v5 0 1 fun v6 => poXi K ad sw rw T (some (.int v6)) h2 :=
    fun M hM => t_81 X1 (t_85 X1 (t_80 X1 ⟨t_frc X1, t_cv (hM h1 X1) fun h2 X2 => t_80 X2 (t_bszG X2 fun s _ _ => ⟨⟨_, rfl⟩, X2⟩)⟩))
  exact ⟨fun _ => call _ fun h2 X2 => k_X3_plain X2 (zRo_v rw), fun _ => call _ fun h2 X2 => k_X3_lengths X2 (zRo_v rw), fun _ => call _ fun h2 X2 => k_X3_front X2 (zRo_v rw), fun _ => call _ fun h2 X2 => k_X3_dictionary X2 (zRo_v rw), fun _ _ _ _ => ⟨⟨_, rfl⟩, X1⟩⟩
theorem k_X8_add (X : zX K ad sw rw T h) {x : Int32} : zm_Ct K M_X8_add [.ref (ad 0), .int x] h (poXi K ad sw rw T) := by
  refine zm_meet (by decide) (Nat.le_of_ble_eq_true rfl) ?_
  intro E C Rt _
  have no : ∀ z : Int32, poXi K ad sw rw T (some (.int z)) h := fun z => ⟨⟨_, rfl⟩, X⟩
  have gsz : ∀ {h : zm_H} (X : zX K ad sw rw T h) {F : Int32 → Prop}, (∀ y, F y) → zm_gI h (ad (zIp sw)) 0 1 F := fun {h} X {F} hF => by
    obtain ⟨s1, t1, hs1, e1, e2⟩ := X.inp (zIp_u sw)
    simp only [zm_gI, e1, List.getElem?_cons_zero, List.getElem?_cons_succ, true_and]
    exact hF _
  have gcl : ∀ {h : zm_H} (X : zX K ad sw rw T h) {F : Nat → Prop}, F (ad (zIp sw + 1)) → zm_gR h (ad (zIp sw)) 0 0 F := fun {h} X {F} hF => by
    obtain ⟨s1, t1, hs1, e1, e2⟩ := X.inp (zIp_u sw)
    simp only [zm_gR, e1, List.getElem?_cons_zero, List.getElem?_cons_succ, true_and]
    exact hF
  refine B_X8_add_0 C Rt (Nat.le_refl 0) (Nat.le_refl 0) ⟨fun _ => ⟨rfl, no _⟩, fun g1 => t_85 X (t_wcG X (zRo_v rw) fun c f t R => ⟨fun _ => ⟨rfl, no _⟩, fun g2 => t_84 X (gsz X fun y => ⟨fun _ => t_84 X (gsz X fun y2 => t_85 X (t_total X (zRo_v rw) fun y3 => ⟨fun _ => ?_, fun _ => ⟨rfl, no _⟩⟩)), fun _ => ⟨rfl, no _⟩⟩)⟩)⟩
  have hc := R.2.2.2.1
  have gx : ¬ x < 0 := fun w => g1 (by
    rw [Int32.lt_iff_toInt_lt] at w ⊢
    have e0 : (0 : Int32).toInt = 0 := rfl
    have e1 : (nI 1).toInt = 1 := by decide
    omega)
  obtain ⟨n, hn0, rfl⟩ := nI_of gx
  rw [znsub hc] at g2
  have hn : n ≤ 1000 - c := by
    rcases Nat.lt_or_ge (1000 - c) n with w | w
    · exact absurd (nI_lt w hn0) g2
    · exact w
  suffices key : ∀ (m k : Nat) (h : zm_H), zX K ad sw rw T h → k ≤ n → n - k < m → zm_Go E 0 0 62 [(0, .ref (ad 0)), (1, .int (nI n)), (2, .int (nI k))] [] h from key 1001 0 h X (by omega) (by omega)
  intro m
  induction m with
  | zero => intro k h _ _ z; omega
  | succ m ih =>
    intro k h X hk hm
    refine B_X8_add_62 C Rt (Nat.le_refl 0) (Nat.le_refl 0) ⟨fun _ => ⟨rfl, ⟨_, rfl⟩, X⟩, fun q => ?_⟩
    have hk2 : k < n := by
      rcases Nat.lt_or_ge k n with w | w
      · exact w
      · exact absurd (nI_le w (by omega)) q
    refine t_85 X (t_84 X (gcl X (t_84 X (gsz X fun y => t_app X (zRo_v rw) (by cases sw <;> simp [zIp]) fun h' X' => ?_))))
    rw [nI_add]
    exact ih (k + 1) h' X' (by omega) (by omega)
def poXe (K : zm_K) (ad : Nat → Nat) (sw rw : Bool) (T : Nat) (x : Int32) : zm_Po := fun r h' => ((¬ x < 0 ∧ x ≤ nI T) ∧ r = some (.int (nI 1)) ∧ zX K ad (!sw) rw 0 h') ∨ (¬ (¬ x < 0 ∧ x ≤ nI T) ∧ r = some (.int (nI 0)) ∧ zX K ad sw rw T h')
def poXr (K : zm_K) (ad : Nat → Nat) (sw : Bool) (T : Nat) : zm_Po := fun r h' => (∃ y : Int32, r = some (.int y)) ∧ ∃ rw, zX K ad sw rw T h'
theorem k_X8_read (X : zX K ad sw rw T h) {x y : Int32} : zm_Ct K M_X8_read [.ref (ad 0), .int x, .int y] h (poXr K ad sw T) := by
  refine zm_meet (by decide) (Nat.le_of_ble_eq_true rfl) ?_
  intro E C Rt _
  have no : ∀ z : Int32, poXr K ad sw T (some (.int z)) h := fun z => ⟨⟨_, rfl⟩, rw, X⟩
  refine B_X8_read_0 C Rt (Nat.le_refl 0) (Nat.le_refl 0) ⟨fun _ => no _, fun g0 => ⟨fun g1 => t_86 X (t_8cP X (zRn_v rw) (by decide) fun h1 X1 => t_82 X1 (t_84 X1 ⟨t_grc X1, t_cv (k_X2_open X1 (zIp_u sw)) fun h2 X2 => ?_⟩)), fun _ => no _⟩⟩
  obtain ⟨n, hn, rfl⟩ := nI_of2 (M := nI 1000) (n := 1000) (by decide) g0 g1
  have swap : ∀ {h : zm_H} (X : zX K ad sw rw T h) {F : zm_H → Prop}, (∀ h', zX K ad sw (!rw) T h' → F h') → zm_gR h (ad 0) 8 6 fun v10 => zm_gR h (ad 0) 8 5 fun v11 => zm_pf h (ad 0) 8 6 (.ref v11) fun h6 => zm_pf h6 (ad 0) 8 5 (.ref v10) F := by
    intro h X F hF
    refine t_86 X (t_85 X ?_)
    simp only [zm_pf, X.ob8, zm_set_s, zm_set_set, List.set_cons_zero, List.set_cons_succ, List.length_cons, List.length_nil, true_and]
    refine ⟨by decide, by decide, hF _ ⟨X.1, fun k hk => ?_⟩⟩
    by_cases hk0 : k = 0
    · subst hk0
      refine ⟨_, zm_set_s _ _ _, ?_⟩
      cases rw
      · rfl
      · rfl
    · obtain ⟨e, he, g⟩ := X.2 k hk
      exact ⟨e, (zm_set_n (X.ne hk (by decide) hk0)).trans he, g.rr hk0⟩
  have call : ∀ (M : zm_M), (∀ h2, zX K ad sw rw T h2 → zm_Ct K M [.ref (ad 27), .ref (ad (zRn9 rw)), .int (nI n)] h2 (poX K ad sw rw T)) → zm_gR h2 (ad 0) 8 2 fun v4 => zm_gR h2 (ad 0) 8 6 fun v5 => zm_rc h2 v4 2 ∧ zm_cv K M [.ref v4, .ref v5, .int (nI n)] h2 fun h3 => zm_gR h3 (ad 0) 8 2 fun v6 => zm_rc h3 v6 2 ∧ zm_ci K M_X2_fault [.ref v6] h3 fun v7 h4 => (¬ v7 = 0 → zm_gR h4 (ad 0) 8 2 fun v8 => zm_rc h4 v8 2 ∧ zm_ci K M_X2_fault [.ref v8] h4 fun v9 h5 => poXr K ad sw T (some (.int v9)) h5) ∧ (v7 = 0 → zm_gR h4 (ad 0) 8 6 fun v10 => zm_gR h4 (ad 0) 8 5 fun v11 => zm_pf h4 (ad 0) 8 6 (.ref v11) fun h6 => zm_pf h6 (ad 0) 8 5 (.ref v10) fun h7 => zm_gR h7 (ad 0) 8 2 fun v12 => zm_rc h7 v12 2 ∧ zm_ci K M_X2_fault [.ref v12] h7 fun v13 h8 => poXr K ad sw T (some (.int v13)) h8) := by
    intro M hM
    refine t_82 X2 (t_86 X2 ⟨t_grc X2, t_cv (hM h2 X2) fun h3 X3 => t_82 X3 ⟨t_grc X3, t_8rd X3 (k_X2_fault X3) fun y => ⟨fun _ => t_82 X3 ⟨t_grc X3, t_8rd X3 (k_X2_fault X3) fun y2 => ⟨⟨_, rfl⟩, rw, X3⟩⟩, fun _ => ?_⟩⟩⟩)
    exact swap X3 fun h7 X7 => t_82 X7 ⟨t_grc X7, t_8rd X7 (k_X2_fault X7) fun y2 => ⟨⟨_, rfl⟩, !rw, X7⟩⟩
  exact ⟨fun _ => call _ fun h3 X3 => k_X2_plain X3 (zRn_v rw) hn, fun _ => call _ fun h3 X3 => k_X2_lengths X3 (zRn_v rw) hn, fun _ => call _ fun h3 X3 => k_X2_front X3 (zRn_v rw) hn, fun _ => call _ fun h3 X3 => k_X2_dictionary X3 (zRn_v rw) hn, fun _ _ _ _ => ⟨⟨_, rfl⟩, rw, X2⟩⟩
end ZT2
