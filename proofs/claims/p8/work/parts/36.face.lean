section ZT1
variable {K : zm_K} {ad : Nat → Nat} {sw rw : Bool} {T : Nat} {h : zm_H}
/-- the tape, the input, the row, the other row -/
def zTp (sw : Bool) : Nat := cond sw 5 3
def zIp (sw : Bool) : Nat := cond sw 3 5
def zRo (rw : Bool) : Nat := cond rw 10 7
def zRn9 (rw : Bool) : Nat := cond rw 7 10
theorem zTp_u (sw : Bool) : zU (zTp sw) := by cases sw <;> simp [zTp, zU]
theorem zIp_u (sw : Bool) : zU (zIp sw) := by cases sw <;> simp [zIp, zU]
theorem zRo_v (rw : Bool) : zV (zRo rw) := by cases rw <;> simp [zRo, zV]
theorem zRn_v (rw : Bool) : zV (zRn9 rw) := by cases rw <;> simp [zRn9, zV]
theorem zX.ob8 (X : zX K ad sw rw T h) : h (ad 0) = some (.inr (8, [.ref (ad 1), .ref (ad 21), .ref (ad 27), .ref (ad (zTp sw)), .ref (ad (zIp sw)), .ref (ad (zRo rw)), .ref (ad (zRn9 rw))])) := by
  obtain ⟨_, h1, rfl⟩ := X.2 0 (by decide)
  exact h1
theorem t_80 (X : zX K ad sw rw T h) {F : Nat → Prop} (hF : F (ad 1)) : zm_gR h (ad 0) 8 0 F := by
  simp only [zm_gR, X.ob8, List.getElem?_cons_zero, List.getElem?_cons_succ, true_and]
  exact hF
theorem t_81 (X : zX K ad sw rw T h) {F : Nat → Prop} (hF : F (ad 21)) : zm_gR h (ad 0) 8 1 F := by
  simp only [zm_gR, X.ob8, List.getElem?_cons_zero, List.getElem?_cons_succ, true_and]
  exact hF
theorem t_82 (X : zX K ad sw rw T h) {F : Nat → Prop} (hF : F (ad 27)) : zm_gR h (ad 0) 8 2 F := by
  simp only [zm_gR, X.ob8, List.getElem?_cons_zero, List.getElem?_cons_succ, true_and]
  exact hF
theorem t_83 (X : zX K ad sw rw T h) {F : Nat → Prop} (hF : F (ad (zTp sw))) : zm_gR h (ad 0) 8 3 F := by
  simp only [zm_gR, X.ob8, List.getElem?_cons_zero, List.getElem?_cons_succ, true_and]
  exact hF
theorem t_84 (X : zX K ad sw rw T h) {F : Nat → Prop} (hF : F (ad (zIp sw))) : zm_gR h (ad 0) 8 4 F := by
  simp only [zm_gR, X.ob8, List.getElem?_cons_zero, List.getElem?_cons_succ, true_and]
  exact hF
theorem t_85 (X : zX K ad sw rw T h) {F : Nat → Prop} (hF : F (ad (zRo rw))) : zm_gR h (ad 0) 8 5 F := by
  simp only [zm_gR, X.ob8, List.getElem?_cons_zero, List.getElem?_cons_succ, true_and]
  exact hF
theorem t_86 (X : zX K ad sw rw T h) {F : Nat → Prop} (hF : F (ad (zRn9 rw))) : zm_gR h (ad 0) 8 6 F := by
  simp only [zm_gR, X.ob8, List.getElem?_cons_zero, List.getElem?_cons_succ, true_and]
  exact hF
theorem gX.tt {T' k : Nat} {e : va_E} (g : gX K ad sw rw T k e) (hk : k ≠ zTp sw) : gX K ad sw rw T' k e := by
  by_cases h3 : k = 3
  · subst h3
    obtain ⟨s, hs, _, he⟩ := g
    exact ⟨s, hs, fun z => absurd (by rw [z]; rfl) hk, he⟩
  · by_cases h5 : k = 5
    · subst h5
      obtain ⟨s, hs, _, he⟩ := g
      exact ⟨s, hs, fun z => absurd (by rw [z]; rfl) hk, he⟩
    · unfold gX at g ⊢
      split <;> first | exact g | trivial | exact absurd rfl h3 | exact absurd rfl h5
theorem gX.rr {rw' : Bool} {k : Nat} {e : va_E} (g : gX K ad sw rw T k e) (hk : k ≠ 0) : gX K ad sw rw' T k e := by
  unfold gX at g ⊢
  split <;> first | exact g | trivial | exact absurd rfl hk
/-- the tape changes -/
theorem zX.tape (X : zX K ad sw rw T h) {T' : Nat} (hT : T' ≤ 24000) (t' : Nat → Nat) : zX K ad sw rw T' (zhB K h (ad (zTp sw)) (ad (zTp sw + 1)) 24000 (t', T')) := by
  refine ⟨X.1, fun k hk => ?_⟩
  have o32 : zTp sw < 32 ∧ zTp sw + 1 < 32 := by cases sw <;> decide
  by_cases h1 : k = zTp sw
  · subst h1
    refine ⟨_, zhB_b, ?_⟩
    cases sw
    · exact ⟨T', hT, fun _ => rfl, rfl⟩
    · exact ⟨T', hT, fun _ => rfl, rfl⟩
  · by_cases h2 : k = zTp sw + 1
    · subst h2
      refine ⟨_, zhB_a (X.ne o32.2 o32.1 (by omega)), ?_⟩
      cases sw
      · exact ⟨t', rfl⟩
      · exact ⟨t', rfl⟩
    · obtain ⟨e, he, g⟩ := X.2 k hk
      exact ⟨e, (zhB_q (X.ne hk o32.1 h1) (X.ne hk o32.2 h2)).trans he, g.tt h1⟩
theorem zX.tp (X : zX K ad sw rw T h) : T ≤ 24000 ∧ ∃ t, h (ad (zTp sw)) = some (.inr (0, [.ref (ad (zTp sw + 1)), .int (nI T)])) ∧ h (ad (zTp sw + 1)) = some (zB K 24000 t) := by
  cases sw
  · obtain ⟨_, h1, s, hs, e, rfl⟩ := X.2 3 (by decide)
    obtain ⟨_, h2, t, rfl⟩ := X.2 4 (by decide)
    have e := e rfl
    subst e
    exact ⟨hs, t, h1, h2⟩
  · obtain ⟨_, h1, s, hs, e, rfl⟩ := X.2 5 (by decide)
    obtain ⟨_, h2, t, rfl⟩ := X.2 6 (by decide)
    have e := e rfl
    subst e
    exact ⟨hs, t, h1, h2⟩
theorem zpb_in {n : Nat} {s : (Nat → Nat) × Nat} {c : Nat} (h : s.2 < n) : (zpb n s c).2 = s.2 + 1 := by
  unfold zpb
  rw [if_pos h]
theorem t_putInt (X : zX K ad sw rw T h) (hT : T + 4 ≤ 24000) {x : Int32} {F : zm_H → Prop} (hF : ∀ h', zX K ad sw rw (T + 4) h' → F h') : zm_rc h (ad (zTp sw)) 0 ∧ zm_cv K M_X0_putInt [.ref (ad (zTp sw)), .int x] h F := by
  obtain ⟨hT0, t, h1, h2⟩ := X.tp
  have o32 : zTp sw < 32 ∧ zTp sw + 1 < 32 := by cases sw <;> decide
  have M := k_X0_putInt (K := K) (h := h) (s := (t, T)) (n := 24000) (x := x) (X.ne o32.2 o32.1 (by omega)) (by decide) hT0
  rw [zhB_id h1 h2] at M
  refine ⟨by simp only [zm_rc, h1], _, M, fun r h' q => ?_⟩
  obtain ⟨rfl, c0, c1, c2, c3, rfl⟩ := q
  have e1 := zpb_in (n := 24000) (s := (t, T)) (c := c0) (show T < 24000 by omega)
  have e2 := zpb_in (n := 24000) (s := zpb 24000 (t, T) c0) (c := c1) (by rw [e1]; show T + 1 < 24000; omega)
  have e3 := zpb_in (n := 24000) (s := zpb 24000 (zpb 24000 (t, T) c0) c1) (c := c2) (by rw [e2, e1]; show T + 1 + 1 < 24000; omega)
  have e4 := zpb_in (n := 24000) (s := zpb 24000 (zpb 24000 (zpb 24000 (t, T) c0) c1) c2) (c := c3) (by rw [e3, e2, e1]; show T + 1 + 1 + 1 < 24000; omega)
  refine ⟨rfl, hF _ ?_⟩
  have e5 : (zpb 24000 (zpb 24000 (zpb 24000 (zpb 24000 (t, T) c0) c1) c2) c3).2 = T + 4 := by
    rw [e4, e3, e2, e1]
  have Y := X.tape hT (zpb 24000 (zpb 24000 (zpb 24000 (zpb 24000 (t, T) c0) c1) c2) c3).1
  rw [← e5] at Y
  rw [← e5]
  exact Y
def poXf (K : zm_K) (ad : Nat → Nat) (sw rw : Bool) (T : Nat) : zm_Po := fun r h' => (T + 20 ≤ 24000 ∧ r = some (.int (nI 1)) ∧ zX K ad sw rw (T + 20) h') ∨ (¬ T + 20 ≤ 24000 ∧ r = some (.int (nI 0)) ∧ zX K ad sw rw T h')
theorem k_X8_feed (X : zX K ad sw rw T h) {x1 x2 x3 x4 x5 : Int32} : zm_Ct K M_X8_feed [.ref (ad 0), .int x1, .int x2, .int x3, .int x4, .int x5] h (poXf K ad sw rw T) := by
  refine zm_meet (by decide) (Nat.le_of_ble_eq_true rfl) ?_
  intro E C Rt _
  obtain ⟨hT0, t, h1, h2⟩ := X.tp
  refine B_X8_feed_0 C Rt (Nat.le_refl 0) (Nat.le_refl 0) (t_83 X ?_)
  have gi : ∀ {F : Int32 → Prop}, F (nI T) → zm_gI h (ad (zTp sw)) 0 1 F := fun hF => by
    simp only [zm_gI, h1, List.getElem?_cons_zero, List.getElem?_cons_succ, true_and]
    exact hF
  have cmp : nI 20 ≤ nI 24000 - nI T ↔ 20 + T ≤ 24000 := zle_sub (by decide) (by decide) (by omega)
  refine gi ⟨fun q => ?_, fun q => ⟨rfl, Or.inr ⟨fun z => q (cmp.mpr (by omega)), rfl, X⟩⟩⟩
  have hT := cmp.mp q
  exact t_83 X (t_putInt X (by omega) fun h1 X1 => t_83 X1 (t_putInt X1 (by omega) fun h2 X2 => t_83 X2 (t_putInt X2 (by omega) fun h3 X3 => t_83 X3 (t_putInt X3 (by omega) fun h4 X4 => t_83 X4 (t_putInt X4 (by omega) fun h5 X5 => ⟨rfl, Or.inl ⟨by omega, rfl, X5⟩⟩)))))
end ZT1
