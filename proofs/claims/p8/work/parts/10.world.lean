/-! the class's whole world, by places: what each cell may hold. sw: which of both Bytes is the tape (false: the one at 3); rw: which Row is the row; T: the tape's size -/
def gX (K : zm_K) (ad : Nat → Nat) (sw rw : Bool) (T : Nat) (k : Nat) (e : va_E) : Prop := match k with
  | 0 => e = .inr (8, [.ref (ad 1), .ref (ad 21), .ref (ad 27), .ref (ad (cond sw 5 3)), .ref (ad (cond sw 3 5)), .ref (ad (cond rw 10 7)), .ref (ad (cond rw 7 10))])
  | 1 => ∃ s, s ≤ 24000 ∧ e = .inr (0, [.ref (ad 2), .int (nI s)])
  | 2 => ∃ t, e = zB K 24000 t
  | 3 => ∃ s, s ≤ 24000 ∧ (sw = false → s = T) ∧ e = .inr (0, [.ref (ad 4), .int (nI s)])
  | 4 => ∃ t, e = zB K 24000 t
  | 5 => ∃ s, s ≤ 24000 ∧ (sw = true → s = T) ∧ e = .inr (0, [.ref (ad 6), .int (nI s)])
  | 6 => ∃ t, e = zB K 24000 t
  | 7 => ∃ c, c ≤ 1000 ∧ e = .inr (5, [.ref (ad 8), .ref (ad 9), .int (nI c)])
  | 8 => ∃ t, e = zB K 20000 t
  | 9 => ∃ f : Nat → Nat, (∀ j, f j ≤ 20000) ∧ e = zI K 1001 (fun j => nI (f j))
  | 10 => ∃ c, c ≤ 1000 ∧ e = .inr (5, [.ref (ad 11), .ref (ad 12), .int (nI c)])
  | 11 => ∃ t, e = zB K 20000 t
  | 12 => ∃ f : Nat → Nat, (∀ j, f j ≤ 20000) ∧ e = zI K 1001 (fun j => nI (f j))
  | 13 => ∃ c, c ≤ 2000 ∧ e = .inr (1, [.ref (ad 14), .ref (ad 15), .int (nI c)])
  | 14 => ∃ f, e = zL K 2000 f
  | 15 => ∃ f, e = zI K 4 f
  | 16 => ∃ c, c ≤ 2000 ∧ e = .inr (1, [.ref (ad 17), .ref (ad 18), .int (nI c)])
  | 17 => ∃ f, e = zL K 2000 f
  | 18 => ∃ f, e = zI K 4 f
  | 19 => ∃ c, c ≤ 1000 ∧ e = .inr (6, [.ref (ad 20), .int (nI c)])
  | 20 => ∃ f, e = zL K 1000 f
  | 21 => e = .inr (3, [.ref (ad 13), .ref (ad 16), .ref (ad 19), .ref (ad 22), .ref (ad 25)])
  | 22 => ∃ c, c ≤ 1000 ∧ e = .inr (4, [.ref (ad 23), .ref (ad 24), .int (nI c)])
  | 23 => ∃ f : Nat → Nat, (∀ j, f j ≤ 1000) ∧ e = zI K 2048 (fun j => nI (f j))
  | 24 => ∃ f : Nat → Nat, (∀ j, f j ≤ 1000) ∧ e = zI K 1000 (fun j => nI (f j))
  | 25 => ∃ s, s ≤ 2000 ∧ e = .inr (0, [.ref (ad 26), .int (nI s)])
  | 26 => ∃ t, e = zB K 2000 t
  | 27 => e = .inr (2, [.ref (ad 28), .ref (ad 13), .ref (ad 16), .ref (ad 19), .ref (ad 30), .ref (ad 31)])
  | 28 => ∃ j at9 lim flt, (j = 4 ∨ j = 6 ∨ j = 29) ∧ e = .inr (7, [.ref (ad j), .int at9, .int lim, .int flt])
  | 29 => ∃ t, e = zB K 0 t
  | 30 => ∃ f, e = zI K 1000 f
  | 31 => ∃ f, e = zI K 1000 f
  | _ => True
def zX (K : zm_K) (ad : Nat → Nat) (sw rw : Bool) (T : Nat) (h : zm_H) : Prop := (∀ i j, i < 32 → j < 32 → ad i = ad j → i = j) ∧ ∀ k, k < 32 → ∃ e, h (ad k) = some e ∧ gX K ad sw rw T k e
section ZX
variable {K : zm_K} {ad : Nat → Nat} {sw rw : Bool} {T : Nat} {h : zm_H}
theorem zX.ne (X : zX K ad sw rw T h) {i j : Nat} (hi : i < 32) (hj : j < 32) (hij : i ≠ j) : ad i ≠ ad j := fun q => hij (X.1 i j hi hj q)
theorem zX.set (X : zX K ad sw rw T h) (j : Nat) (hj : j < 32) {e : va_E} (he : gX K ad sw rw T j e) : zX K ad sw rw T (zm_set h (ad j) e) := by
  refine ⟨X.1, fun k hk => ?_⟩
  by_cases hkj : k = j
  · subst hkj
    exact ⟨e, zm_set_s _ _ _, he⟩
  · rw [zm_set_n (X.ne hk hj hkj)]
    exact X.2 k hk
theorem zX.of {h' : zm_H} (X : zX K ad sw rw T h) (hh : ∀ k, k < 32 → h' (ad k) = h (ad k) ∨ ∃ e, h' (ad k) = some e ∧ gX K ad sw rw T k e) : zX K ad sw rw T h' := by
  refine ⟨X.1, fun k hk => ?_⟩
  rcases hh k hk with q | q
  · rw [q]
    exact X.2 k hk
  · exact q
/-- the Bytes that is written: at 1, or at 25 -/
def zW (k cap : Nat) : Prop := (k = 1 ∧ cap = 24000) ∨ (k = 25 ∧ cap = 2000)
theorem zX.bytes (X : zX K ad sw rw T h) {k cap : Nat} (hk : zW k cap) : ad (k + 1) ≠ ad k ∧ cap < 2 ^ 31 ∧ ∃ s t, s ≤ cap ∧ h (ad k) = some (.inr (0, [.ref (ad (k + 1)), .int (nI s)])) ∧ h (ad (k + 1)) = some (zB K cap t) ∧ zhB K h (ad k) (ad (k + 1)) cap (t, s) = h ∧ ∀ s' : (Nat → Nat) × Nat, s'.2 ≤ cap → zX K ad sw rw T (zhB K h (ad k) (ad (k + 1)) cap s') := by
  rcases hk with ⟨rfl, rfl⟩ | ⟨rfl, rfl⟩
  · obtain ⟨_, h1, s, hs, rfl⟩ := X.2 1 (by decide)
    obtain ⟨_, h2, t, rfl⟩ := X.2 2 (by decide)
    exact ⟨X.ne (by decide) (by decide) (by decide), by decide, s, t, hs, h1, h2, zhB_id h1 h2, fun s' hs' => (X.set 2 (by decide) ⟨_, rfl⟩).set 1 (by decide) ⟨_, hs', rfl⟩⟩
  · obtain ⟨_, h1, s, hs, rfl⟩ := X.2 25 (by decide)
    obtain ⟨_, h2, t, rfl⟩ := X.2 26 (by decide)
    exact ⟨X.ne (by decide) (by decide) (by decide), by decide, s, t, hs, h1, h2, zhB_id h1 h2, fun s' hs' => (X.set 26 (by decide) ⟨_, rfl⟩).set 25 (by decide) ⟨_, hs', rfl⟩⟩
theorem t_put (X : zX K ad sw rw T h) {k cap : Nat} (hk : zW k cap) {x : Int32} {F : zm_H → Prop} (hF : ∀ h', zX K ad sw rw T h' → F h') : zm_rc h (ad k) 0 ∧ zm_cv K M_X0_put [.ref (ad k), .int x] h F := by
  obtain ⟨ne, hc, s, t, hs, h1, h2, hid, st⟩ := X.bytes hk
  refine ⟨by simp only [zm_rc, h1], _, c_X0_put h1 h2 hc hs, fun r h' q => ?_⟩
  obtain ⟨rfl, rfl⟩ := q
  exact ⟨rfl, hF _ (st _ (zpb_le hs))⟩
theorem t_putVarint (X : zX K ad sw rw T h) {k cap : Nat} (hk : zW k cap) {x : Int64} {F : zm_H → Prop} (hF : ∀ h', zX K ad sw rw T h' → F h') : zm_rc h (ad k) 0 ∧ zm_cv K M_X0_putVarint [.ref (ad k), .long x] h F := by
  obtain ⟨ne, hc, s, t, hs, h1, h2, hid, st⟩ := X.bytes hk
  have M := k_X0_putVarint (K := K) (h := h) (s := (t, s)) (x := x) ne hc hs
  rw [hid] at M
  refine ⟨by simp only [zm_rc, h1], _, M, fun r h' q => ?_⟩
  obtain ⟨rfl, s', hs', rfl⟩ := q
  exact ⟨rfl, hF _ (st _ hs')⟩
theorem t_putZeros (X : zX K ad sw rw T h) {k cap : Nat} (hk : zW k cap) {x : Int32} {F : zm_H → Prop} (hF : ∀ h', zX K ad sw rw T h' → F h') : zm_rc h (ad k) 0 ∧ zm_cv K M_X0_putZeros [.ref (ad k), .int x] h F := by
  obtain ⟨ne, hc, s, t, hs, h1, h2, hid, st⟩ := X.bytes hk
  have M := k_X0_putZeros (K := K) (h := h) (s := (t, s)) (x := x) ne hc hs
  rw [hid] at M
  refine ⟨by simp only [zm_rc, h1], _, M, fun r h' q => ?_⟩
  obtain ⟨rfl, s', hs', rfl⟩ := q
  exact ⟨rfl, hF _ (st _ hs')⟩
theorem t_setBits (X : zX K ad sw rw T h) {k cap : Nat} (hk : zW k cap) {x1 x2 x3 : Int32} {x4 : Int64} {F : zm_H → Prop} (hF : ∀ h', zX K ad sw rw T h' → F h') : zm_rc h (ad k) 0 ∧ zm_cv K M_X0_setBits [.ref (ad k), .int x1, .int x2, .int x3, .long x4] h F := by
  obtain ⟨ne, hc, s, t, hs, h1, h2, hid, st⟩ := X.bytes hk
  have M := k_X0_setBits (K := K) (h := h) (s := (t, s)) (x1 := x1) (x2 := x2) (x3 := x3) (x4 := x4) ne hc hs
  rw [hid] at M
  refine ⟨by simp only [zm_rc, h1], _, M, fun r h' q => ?_⟩
  obtain ⟨rfl, t', rfl⟩ := q
  exact ⟨rfl, hF _ (st _ hs)⟩
theorem t_putAll (X : zX K ad sw rw T h) {k cap j n2 : Nat} {t2 : Nat → Nat} (hk : zW k cap) (hj : j < 32) (hjk : j ≠ k ∧ j ≠ k + 1) (hsrc : h (ad j) = some (zB K n2 t2)) (hn2 : n2 < 2 ^ 31) {x1 x2 : Int32} {F : zm_H → Prop} (hF : ∀ h', zX K ad sw rw T h' → F h') : zm_rc h (ad k) 0 ∧ zm_cv K M_X0_putAll [.ref (ad k), .ref (ad j), .int x1, .int x2] h F := by
  obtain ⟨ne, hc, s, t, hs, h1, h2, hid, st⟩ := X.bytes hk
  have k32 : k + 1 < 32 := by rcases hk with ⟨rfl, -⟩ | ⟨rfl, -⟩ <;> decide
  have M := k_X0_putAll (K := K) (h := h) (s := (t, s)) (x2 := x1) (x3 := x2) ne hc hs (X.ne hj k32 hjk.2) (X.ne hj (by omega) hjk.1) hsrc hn2
  rw [hid] at M
  refine ⟨by simp only [zm_rc, h1], _, M, fun r h' q => ?_⟩
  obtain ⟨rfl, s', hs', rfl⟩ := q
  exact ⟨rfl, hF _ (st _ hs')⟩
/-- a Row: at 7, or at 10 -/
def zV (r : Nat) : Prop := r = 7 ∨ r = 10
theorem zX.row (X : zX K ad sw rw T h) {r : Nat} (hr : zV r) : ∃ c f t, zR K h (ad r) (ad (r + 1)) (ad (r + 2)) c f t := by
  rcases hr with rfl | rfl
  · obtain ⟨_, h1, c, hc, rfl⟩ := X.2 7 (by decide)
    obtain ⟨_, h2, t, rfl⟩ := X.2 8 (by decide)
    obtain ⟨_, h3, f, hf, rfl⟩ := X.2 9 (by decide)
    exact ⟨c, f, t, h1, h2, h3, hc, hf⟩
  · obtain ⟨_, h1, c, hc, rfl⟩ := X.2 10 (by decide)
    obtain ⟨_, h2, t, rfl⟩ := X.2 11 (by decide)
    obtain ⟨_, h3, f, hf, rfl⟩ := X.2 12 (by decide)
    exact ⟨c, f, t, h1, h2, h3, hc, hf⟩
theorem zX.rowSet (X : zX K ad sw rw T h) {r : Nat} (hr : zV r) {h' : zm_H} (hR : ∃ c f t, zR K h' (ad r) (ad (r + 1)) (ad (r + 2)) c f t) (hq : ∀ q, q ≠ ad r → q ≠ ad (r + 1) → q ≠ ad (r + 2) → h' q = h q) : zX K ad sw rw T h' := by
  obtain ⟨c, f, t, h1, h2, h3, hc, hf⟩ := hR
  refine X.of (fun k hk => ?_)
  rcases hr with rfl | rfl
  · by_cases k7 : k = 7
    · subst k7; exact Or.inr ⟨_, h1, c, hc, rfl⟩
    · by_cases k8 : k = 8
      · subst k8; exact Or.inr ⟨_, h2, t, rfl⟩
      · by_cases k9 : k = 9
        · subst k9; exact Or.inr ⟨_, h3, f, hf, rfl⟩
        · exact Or.inl (hq _ (X.ne hk (by decide) k7) (X.ne hk (by decide) k8) (X.ne hk (by decide) k9))
  · by_cases k7 : k = 10
    · subst k7; exact Or.inr ⟨_, h1, c, hc, rfl⟩
    · by_cases k8 : k = 11
      · subst k8; exact Or.inr ⟨_, h2, t, rfl⟩
      · by_cases k9 : k = 12
        · subst k9; exact Or.inr ⟨_, h3, f, hf, rfl⟩
        · exact Or.inl (hq _ (X.ne hk (by decide) k7) (X.ne hk (by decide) k8) (X.ne hk (by decide) k9))
theorem t_append (X : zX K ad sw rw T h) {r j n2 : Nat} {t2 : Nat → Nat} (hr : zV r) (hj : j < 32) (hjr : j ≠ r + 1) (h2 : h (ad j) = some (zB K n2 t2)) (hn2 : n2 ≤ 24000) {x1 x3 x4 : Int32} {F : zm_H → Prop} (hF : ∀ h', zX K ad sw rw T h' → F h') : zm_rc h (ad r) 5 ∧ zm_cv K M_X5_append [.ref (ad r), .int x1, .ref (ad j), .int x3, .int x4] h F := by
  obtain ⟨c, f, t, R⟩ := X.row hr
  have r32 : r + 1 < 32 := by rcases hr with rfl | rfl <;> decide
  refine ⟨by simp only [zm_rc, R.1], _, k_X5_append R h2 hn2 (X.ne hj r32 hjr), fun v h' q => ?_⟩
  obtain ⟨rfl, q1, q2⟩ := q
  exact ⟨rfl, hF _ (X.rowSet hr q1 q2)⟩
/-- the Scan -/
theorem zX.scan (X : zX K ad sw rw T h) : ∃ (j : Nat) (at9 lim flt : Int32) (n : Nat) (t : Nat → Nat), (j = 4 ∨ j = 6 ∨ j = 29) ∧ j < 32 ∧ ad j ≠ ad 28 ∧ n ≤ 24000 ∧ h (ad 28) = some (.inr (7, [.ref (ad j), .int at9, .int lim, .int flt])) ∧ h (ad j) = some (zB K n t) ∧ zhS h (ad 28) (ad j) at9 lim flt = h ∧ ∀ at9' lim' flt', zX K ad sw rw T (zhS h (ad 28) (ad j) at9' lim' flt') := by
  obtain ⟨_, h1, j, at9, lim, flt, hj, rfl⟩ := X.2 28 (by decide)
  have j32 : j < 32 := by rcases hj with rfl | rfl | rfl <;> decide
  obtain ⟨n, t, hn, h2⟩ : ∃ (n : Nat) (t : Nat → Nat), n ≤ 24000 ∧ h (ad j) = some (zB K n t) := by
    rcases hj with rfl | rfl | rfl
    · obtain ⟨_, h2, t, rfl⟩ := X.2 4 (by decide)
      exact ⟨_, t, by decide, h2⟩
    · obtain ⟨_, h2, t, rfl⟩ := X.2 6 (by decide)
      exact ⟨_, t, by decide, h2⟩
    · obtain ⟨_, h2, t, rfl⟩ := X.2 29 (by decide)
      exact ⟨_, t, by decide, h2⟩
  refine ⟨j, at9, lim, flt, n, t, hj, j32, X.ne j32 (by decide) (by rcases hj with rfl | rfl | rfl <;> decide), hn, h1, h2, ?_, fun _ _ _ => X.set 28 (by decide) ⟨j, _, _, _, hj, rfl⟩⟩
  funext q
  by_cases hq : q = ad 28
  · subst hq
    rw [zhS_s, h1]
  · rw [zhS_q hq]
end ZX
