/-- a form has been read, or a fault found -/
def poD (K : zm_K) (ad : Nat → Nat) (s : mS) (n : Nat) : zm_Po := fun r h' => r = none ∧ ∃ s', zM K ad s' h' ∧ mK [8, 9, 16, 17, 19] [2, 3, 5, 6, 20, 21, 22] s s' ∧ mG (s.fi 14) s' ∧ s'.fi 19 ≤ 2000 ∧ (∃ g, mN s' g) ∧ (s'.fi 17 = 0 → s'.fi 8 = n)
def mU (f : Nat → Int32) (n : Nat) : Prop := ∀ j, j < n → f j ≤ nI 256
theorem mU.up {f : Nat → Int32} {k : Nat} {x : Int32} (U : mU f k) (hx : x ≤ nI 256) : mU (upd f k x) (k + 1) := fun j hj => by
  by_cases q : j = k
  · rw [upd, if_pos q]
    exact hx
  · rw [upd, if_neg q]
    exact U j (by omega)
section ZNF
variable {K : zm_K} {ad : Nat → Nat} {s : mS} {h : zm_H} {g : Nat → Nat} {T : Nat}
theorem r_told {x : Int64} : zm_Ct K M_X9_told [.long x] h (fun r h' => h' = h ∧ ∃ y : Int32, y ≤ nI 256 ∧ r = some (.int y)) := by
  refine zm_meet (by decide) (Nat.le_of_ble_eq_true rfl) ?_
  intro E C Rt _
  refine B_X9_told_0 C Rt (Nat.le_refl 0) (Nat.le_refl 0) ⟨fun lo => ⟨fun hi => ⟨rfl, _, ?_, rfl⟩, fun _ => ⟨rfl, _, by decide, rfl⟩⟩, fun _ => ⟨rfl, _, by decide, rfl⟩⟩
  have lo2 : ¬ lg_cmp x (lN 0) < 0 := fun z => by
    have a := (lg_cmp_lt _ _).mp z
    have b := (lg_cmp_ge _ _).mp lo
    rw [Int64.lt_iff_toInt_lt] at a
    rw [Int64.le_iff_toInt_le] at b
    omega
  obtain ⟨v, hv, rfl⟩ := zlr (by decide) lo2 hi
  rw [lN_i]
  exact nI_le (by omega) (by decide)
theorem m_told {x : Int64} {F : Int32 → zm_H → Prop} (hF : ∀ y, y ≤ nI 256 → F y h) : zm_ci K M_X9_told [.long x] h F := ⟨_, r_told, fun r h' q => by
  obtain ⟨rfl, y, hy, rfl⟩ := q
  exact ⟨y, rfl, hF y hy⟩⟩
theorem r_readLengths (X : zM K ad s h) (hB : mB (s.ai 11)) (hz : s.fi 14 ≤ 24000) (G : mG (s.fi 14) s) (h19 : s.fi 19 ≤ 2000) (R : mN s g) (h8 : s.fi 8 = 0) {n : Nat} (hn : n ≤ 1000) : zm_Ct K M_X9_readLengths [.ref (ad 0), .int (nI n)] h (poD K ad s n) := by
  refine zm_meet (by decide) (Nat.le_of_ble_eq_true rfl) ?_
  intro E C Rt _
  have k57 : ∀ (m k : Nat) (s2 : mS) (h2 : zm_H), zM K ad s2 h2 → mK [8, 16, 17, 19] [2, 5] s s2 → mG (s.fi 14) s2 → s2.fi 19 ≤ 2000 → (∃ g, mN s2 g) → (s2.fi 17 = 0 → s2.fi 8 = k ∧ ∀ j, j < n → ∃ x, x ≤ 255 ∧ s2.lg j = lN x) → k ≤ n → n - k < m → zm_Go E 0 0 57 [(0, .ref (ad 0)), (1, .int (nI n)), (2, .int (nI k))] [] h2 := by
    intro m
    induction m with
    | zero => intro k s2 h2 _ _ _ _ _ _ _ z; omega
    | succ m ih =>
      intro k s2 h2 X2 Q2 G2 c2 N2 P2 hk hm
      have fin : (s2.fi 17 = 0 → k = n) → poD K ad s n none h2 := fun z => ⟨rfl, s2, X2, Q2.mono (by decide) (by decide), G2, c2, N2, fun y => (P2 y).1.trans (z y)⟩
      refine B_X9_readLengths_57 C Rt (Nat.le_refl 0) (Nat.le_refl 0) ⟨fun q => fin (fun _ => by have := (nI_leI (by omega) (by omega)).mp q; omega), fun q => X2.gI 17 rfl ⟨fun z => fin (fun y => absurd (G2.z.mpr y) z), fun z => ?_⟩⟩
      have hk2 : k < n := by
        rcases Nat.lt_or_ge k n with y | y
        · exact y
        · exact absurd (nI_le y (by omega)) q
      have f2 := G2.z.mp z
      obtain ⟨p1, p2⟩ := P2 f2
      obtain ⟨x, hx, ex⟩ := p2 k hk2
      have e14 := Q2.1 14 (by decide)
      obtain ⟨g2, N2⟩ := N2
      refine X2.gR 18 rfl (X2.lL k (by omega) rfl ?_)
      rw [ex, lN_i]
      refine ⟨X2.rc, _, r_take X2 (by omega) f2 (by rw [e14]; exact G2.2 f2) N2 (by omega) (b := 0) (by omega) (Or.inl rfl), fun r h' p => ?_⟩
      obtain ⟨rfl, s4, X4, Q4, L4, G4, N4, c4⟩ := p
      rw [e14] at G4
      rw [nI_add]
      refine ⟨rfl, ih (k + 1) s4 h' X4 (Q2.trans (Q4.mono (by decide) (by decide))) G4 (by rw [Q4.1 19 (by decide)]; exact c2) N4 (fun y => ⟨by rw [c4 y]; omega, fun j hj => by rw [L4]; exact p2 j hj⟩) (by omega) (by omega)⟩
  refine B_X9_readLengths_0 C Rt (Nat.le_refl 0) (Nat.le_refl 0) ⟨X.rc, _, r_readCode X hB hz G h19 hn, fun r h1 p => ?_⟩
  obtain ⟨rfl, s1, X1, Q1, G1, c1, _⟩ := p
  refine ⟨rfl, ?_⟩
  have e81 : s1.fi 8 = 0 := (Q1.1 8 (by decide)).trans h8
  suffices k7 : ∀ (m k : Nat) (s2 : mS) (h2 : zm_H), zM K ad s2 h2 → mK [16, 17, 19] [] s s2 → mG (s.fi 14) s2 → s2.fi 19 ≤ 2000 → (s2.fi 17 = 0 → ∀ j, j < k → ∃ x, x ≤ 255 ∧ s2.lg j = lN x) → k ≤ n → n - k < m → zm_Go E 0 0 7 [(0, .ref (ad 0)), (1, .int (nI n)), (2, .int (nI k))] [] h2 from k7 1001 0 s1 h1 X1 Q1 G1 c1 (fun _ j y => absurd y (by omega)) (by omega) (by omega)
  intro m
  induction m with
  | zero => intro k s2 h2 _ _ _ _ _ _ z; omega
  | succ m ih =>
    intro k s2 h2 X2 Q2 G2 c2 P2 hk hm
    have e82 : s2.fi 8 = 0 := (Q2.1 8 (by decide)).trans h8
    have N2 : mN s2 g := R.of (Q2.1 8 (by decide)) (Q2.2 2 (by simp))
    have out : (s2.fi 17 = 0 → k = n) → zm_Go E 0 0 57 [(0, .ref (ad 0)), (1, .int (nI n)), (2, .int (nI 0))] [] h2 := fun z => k57 1001 0 s2 h2 X2 (Q2.mono (by decide) (by simp)) G2 c2 ⟨g, N2⟩ (fun y => ⟨e82, fun j hj => P2 y j (by have := z y; omega)⟩) (by omega) (by omega)
    refine B_X9_readLengths_7 C Rt ⟨fun q => out (fun _ => by have := (nI_leI (by omega) (by omega)).mp q; omega), fun q => X2.gI 17 rfl ⟨fun z => out (fun y => absurd (G2.z.mpr y) z), fun z => ?_⟩⟩
    have hk2 : k < n := by
      rcases Nat.lt_or_ge k n with y | y
      · exact y
      · exact absurd (nI_le y (by omega)) q
    have bad : zm_pf h2 (ad 0) 9 17 (.int (nI 7)) fun h3 => zm_Go E 0 0 7 [(0, .ref (ad 0)), (1, .int (nI n)), (2, .int (nI k + nI 1))] [] h3 := X2.pf 17 7 rfl (by decide) rfl fun h3 X3 => by
      rw [nI_add]
      exact ih (k + 1) _ h3 X3 (Q2.trans (mK.pf (by decide))) (mG.flt (by decide) (by decide)) c2 (fun y => absurd (show (7 : Nat) = 0 from y) (by decide)) (by omega) (by omega)
    refine X2.gR 18 rfl (X2.lL k (by omega) rfl ⟨fun _ => bad, fun lo => X2.gR 18 rfl (X2.lL k (by omega) rfl ⟨fun hi => ?_, fun _ => bad⟩)⟩)
    rw [nI_add]
    refine ih (k + 1) s2 h2 X2 Q2 G2 c2 (fun y j hj => ?_) (by omega) (by omega)
    by_cases e : j = k
    · rw [e]
      exact zlr (by decide) lo hi
    · exact P2 y j (by omega)
theorem r_readFront (X : zM K ad s h) (hB : mB (s.ai 11)) (hz : s.fi 14 ≤ 24000) (G : mG (s.fi 14) s) (h19 : s.fi 19 ≤ 2000) (R : mN s g) (h8 : s.fi 8 = 0) {n : Nat} (hn : n ≤ 1000) : zm_Ct K M_X9_readFront [.ref (ad 0), .int (nI n)] h (poD K ad s n) := by
  refine zm_meet (by decide) (Nat.le_of_ble_eq_true rfl) ?_
  intro E C Rt _
  have k89 : ∀ (m k : Nat) (s2 : mS) (h2 : zm_H), zM K ad s2 h2 → mK [8, 16, 17, 19] [2, 5, 21, 22] s s2 → mG (s.fi 14) s2 → s2.fi 19 ≤ 2000 → (∃ g, mN s2 g) → (s2.fi 17 = 0 → s2.fi 8 = k ∧ mU (s2.ai 21) n ∧ mU (s2.ai 22) n) → k ≤ n → n - k < m → zm_Go E 0 0 89 [(0, .ref (ad 0)), (1, .int (nI n)), (2, .int (nI k))] [] h2 := by
    intro m
    induction m with
    | zero => intro k s2 h2 _ _ _ _ _ _ _ z; omega
    | succ m ih =>
      intro k s2 h2 X2 Q2 G2 c2 N2 P2 hk hm
      have fin : (s2.fi 17 = 0 → k = n) → poD K ad s n none h2 := fun z => ⟨rfl, s2, X2, Q2.mono (by decide) (by decide), G2, c2, N2, fun y => (P2 y).1.trans (z y)⟩
      refine B_X9_readFront_89 C Rt (Nat.le_refl 0) (Nat.le_refl 0) ⟨fun q => fin (fun _ => by have := (nI_leI (by omega) (by omega)).mp q; omega), fun q => X2.gI 17 rfl ⟨fun z => fin (fun y => absurd (G2.z.mpr y) z), fun z => ?_⟩⟩
      have hk2 : k < n := by
        rcases Nat.lt_or_ge k n with y | y
        · exact y
        · exact absurd (nI_le y (by omega)) q
      have f2 := G2.z.mp z
      obtain ⟨p1, p2, p3⟩ := P2 f2
      have e14 := Q2.1 14 (by decide)
      have bad : zm_pf h2 (ad 0) 9 17 (.int (nI 7)) fun h3 => zm_Go E 0 0 89 [(0, .ref (ad 0)), (1, .int (nI n)), (2, .int (nI k + nI 1))] [] h3 := X2.pf 17 7 rfl (by decide) rfl fun h3 X3 => by
        rw [nI_add]
        exact ih (k + 1) _ h3 X3 (Q2.trans (mK.pf (by decide))) (mG.flt (by decide) (by decide)) c2 N2 (fun y => absurd (show (7 : Nat) = 0 from y) (by decide)) (by omega) (by omega)
      obtain ⟨g2, N2'⟩ := N2
      have go : ∀ (c d : Nat), s2.ai 21 k = nI c → s2.ai 22 k = nI d → d + c ≤ 255 → (c = 0 ∨ (1 ≤ s2.fi 8 ∧ g2 (s2.fi 8 - 1) + c ≤ g2 (s2.fi 8))) → zm_gR h2 (ad 0) 9 22 fun v16 => zm_ld K 1 h2 v16 (nI k) fun v17 => zm_gR h2 (ad 0) 9 21 fun v18 => zm_ld K 1 h2 v18 (nI k) fun v19 => zm_rc h2 (ad 0) 9 ∧ zm_cv K M_X9_take [.ref (ad 0), .int v17, .int v19] h2 fun h4 => zm_Go E 0 0 89 [(0, .ref (ad 0)), (1, .int (nI n)), (2, .int (nI k + nI 1))] [] h4 := by
        intro c d ec ed hcd hc
        refine X2.gR 22 rfl (X2.ld 22 k (by decide) (show k < 1000 by omega) rfl (X2.gR 21 rfl (X2.ld 21 k (by decide) (show k < 1000 by omega) rfl ?_)))
        rw [ec, ed]
        refine ⟨X2.rc, _, r_take X2 (by omega) f2 (by rw [e14]; exact G2.2 f2) N2' (by omega) hcd hc, fun r h' p => ?_⟩
        obtain ⟨rfl, s4, X4, Q4, L4, G4, N4, c4⟩ := p
        rw [e14] at G4
        rw [nI_add]
        exact ⟨rfl, ih (k + 1) s4 h' X4 (Q2.trans (Q4.mono (by decide) (by decide))) G4 (by rw [Q4.1 19 (by decide)]; exact c2) N4 (fun y => ⟨by rw [c4 y]; omega, by rw [Q4.2 21 (by decide)]; exact p2, by rw [Q4.2 22 (by decide)]; exact p3⟩) (by omega) (by omega)⟩
      have m256 : (nI 256).toInt = (256 : Nat) := by decide
      refine ⟨fun k0 => ?_, fun k0 => ?_⟩
      · have hk0 : 1 ≤ k := by
          rcases Nat.eq_zero_or_pos k with y | y
          · subst y
            exact absurd rfl k0
          · exact y
        have hmono := (N2'.2.2.2 (k - 1) (by omega)).1
        rw [Nat.sub_add_cancel hk0] at hmono
        have hgk := N2'.2.2.1 k
        refine X2.gR 2 rfl (X2.ld 2 k (by decide) (show k < 1001 by omega) rfl (X2.gR 2 rfl (X2.ld 2 (k - 1) (by decide) (show k - 1 < 1001 by omega) (znsub hk0) (X2.gR 21 rfl (X2.ld 21 k (by decide) (show k < 1000 by omega) rfl ⟨fun _ => bad, fun c0 => X2.gR 22 rfl (X2.ld 22 k (by decide) (show k < 1000 by omega) rfl ⟨fun _ => bad, fun d0 => ?_⟩)⟩)))))
        obtain ⟨c, hc, ec⟩ := nI_of2 m256 c0 (p2 k hk2)
        obtain ⟨d, hd, ed⟩ := nI_of2 m256 d0 (p3 k hk2)
        refine X2.gR 21 rfl (X2.ld 21 k (by decide) (show k < 1000 by omega) rfl (X2.gR 22 rfl (X2.ld 22 k (by decide) (show k < 1000 by omega) rfl ⟨fun _ => bad, fun s0 => X2.gR 21 rfl (X2.ld 21 k (by decide) (show k < 1000 by omega) rfl ⟨fun b0 => ?_, fun _ => bad⟩)⟩)))
        rw [ec, ed, nI_add] at s0
        have hcd : c + d ≤ 255 := by
          rcases Nat.lt_or_ge 255 (c + d) with y | y
          · exact absurd (nI_lt y (by omega)) s0
          · exact y
        rw [ec, N2'.2.1, N2'.2.1] at b0
        have hb := (zle_sub (by omega) (by omega) (by omega)).mp b0
        exact go c d ec ed (by omega) (Or.inr ⟨by omega, by rw [p1]; omega⟩)
      · refine X2.gR 21 rfl (X2.ld 21 k (by decide) (show k < 1000 by omega) rfl ⟨fun _ => bad, fun c0 => X2.gR 22 rfl (X2.ld 22 k (by decide) (show k < 1000 by omega) rfl ⟨fun _ => bad, fun d0 => ?_⟩)⟩)
        obtain ⟨c, hc, ec⟩ := nI_of2 m256 c0 (p2 k hk2)
        obtain ⟨d, hd, ed⟩ := nI_of2 m256 d0 (p3 k hk2)
        refine X2.gR 21 rfl (X2.ld 21 k (by decide) (show k < 1000 by omega) rfl (X2.gR 22 rfl (X2.ld 22 k (by decide) (show k < 1000 by omega) rfl ⟨fun _ => bad, fun s0 => X2.gR 21 rfl (X2.ld 21 k (by decide) (show k < 1000 by omega) rfl ⟨fun b0 => ?_, fun _ => bad⟩)⟩)))
        rw [ec, ed, nI_add] at s0
        have hcd : c + d ≤ 255 := by
          rcases Nat.lt_or_ge 255 (c + d) with y | y
          · exact absurd (nI_lt y (by omega)) s0
          · exact y
        rw [ec] at b0
        have hb := (nI_leI (by omega) (by omega)).mp b0
        exact go c d ec ed (by omega) (Or.inl (by omega))
  have k54 : ∀ (m k : Nat) (s2 : mS) (h2 : zm_H), zM K ad s2 h2 → mK [16, 17, 19] [21, 22] s s2 → mG (s.fi 14) s2 → s2.fi 19 ≤ 2000 → (s2.fi 17 = 0 → mU (s2.ai 21) n ∧ mU (s2.ai 22) k) → k ≤ n → n - k < m → zm_Go E 0 0 54 [(0, .ref (ad 0)), (1, .int (nI n)), (2, .int (nI k))] [] h2 := by
    intro m
    induction m with
    | zero => intro k s2 h2 _ _ _ _ _ _ z; omega
    | succ m ih =>
      intro k s2 h2 X2 Q2 G2 c2 P2 hk hm
      have e82 : s2.fi 8 = 0 := (Q2.1 8 (by decide)).trans h8
      have N2 : mN s2 g := R.of (Q2.1 8 (by decide)) (Q2.2 2 (by decide))
      have out : (s2.fi 17 = 0 → k = n) → zm_Go E 0 0 89 [(0, .ref (ad 0)), (1, .int (nI n)), (2, .int (nI 0))] [] h2 := fun z => k89 1001 0 s2 h2 X2 (Q2.mono (by decide) (by decide)) G2 c2 ⟨g, N2⟩ (fun y => ⟨e82, (P2 y).1, by have := (P2 y).2; rw [z y] at this; exact this⟩) (by omega) (by omega)
      refine B_X9_readFront_54 C Rt (Nat.le_refl 0) (Nat.le_refl 0) ⟨fun q => out (fun _ => by have := (nI_leI (by omega) (by omega)).mp q; omega), fun q => X2.gI 17 rfl ⟨fun z => out (fun y => absurd (G2.z.mpr y) z), fun z => ?_⟩⟩
      have hk2 : k < n := by
        rcases Nat.lt_or_ge k n with y | y
        · exact y
        · exact absurd (nI_le y (by omega)) q
      obtain ⟨p1, p2⟩ := P2 (G2.z.mp z)
      refine X2.gR 22 rfl (X2.gR 18 rfl (X2.lL k (by omega) rfl (m_told fun y hy => X2.st 22 k (by decide) (show k < 1000 by omega) rfl fun h3 X3 => ?_)))
      rw [nI_add]
      exact ih (k + 1) _ h3 X3 (Q2.trans (mK.sa (by decide))) G2 c2 (fun _ => ⟨p1, p2.up hy⟩) (by omega) (by omega)
  refine B_X9_readFront_0 C Rt (Nat.le_refl 0) (Nat.le_refl 0) ⟨X.rc, _, r_readCode X hB hz G h19 hn, fun r h1 p => ?_⟩
  obtain ⟨rfl, s1, X1, Q1, G1, c1, _⟩ := p
  refine ⟨rfl, ?_⟩
  suffices k7 : ∀ (m k : Nat) (s2 : mS) (h2 : zm_H), zM K ad s2 h2 → mK [16, 17, 19] [21, 22] s s2 → mG (s.fi 14) s2 → s2.fi 19 ≤ 2000 → (s2.fi 17 = 0 → mU (s2.ai 21) k) → k ≤ n → n - k < m → zm_Go E 0 0 7 [(0, .ref (ad 0)), (1, .int (nI n)), (2, .int (nI k))] [] h2 from k7 1001 0 s1 h1 X1 (Q1.mono (by decide) (by simp)) G1 c1 (fun _ j y => absurd y (by omega)) (by omega) (by omega)
  intro m
  induction m with
  | zero => intro k s2 h2 _ _ _ _ _ _ z; omega
  | succ m ih =>
    intro k s2 h2 X2 Q2 G2 c2 P2 hk hm
    have e14 := Q2.1 14 (by decide)
    have out : (s2.fi 17 = 0 → k = n) → zm_gI h2 (ad 0) 9 17 fun v1 => (¬ v1 = 0 → zm_Go E 0 0 54 [(0, .ref (ad 0)), (1, .int (nI n)), (2, .int (nI 0))] [] h2) ∧ (v1 = 0 → zm_rc h2 (ad 0) 9 ∧ zm_cv K M_X9_readCode [.ref (ad 0), .int (nI n)] h2 fun h1 => zm_Go E 0 0 54 [(0, .ref (ad 0)), (1, .int (nI n)), (2, .int (nI 0))] [] h1) := by
      intro zz
      refine X2.gI 17 rfl ⟨fun z => k54 1001 0 s2 h2 X2 Q2 G2 c2 (fun y => absurd (G2.z.mpr y) z) (by omega) (by omega), fun z => ⟨X2.rc, _, r_readCode X2 (by rw [Q2.2 11 (by decide)]; exact hB) (by omega) (by rw [e14]; exact G2) c2 hn, fun r h3 p => ?_⟩⟩
      obtain ⟨rfl, s3, X3, Q3, G3, c3, _⟩ := p
      rw [e14] at G3
      refine ⟨rfl, k54 1001 0 s3 h3 X3 (Q2.trans (Q3.mono (by decide) (by simp))) G3 c3 (fun _ => ⟨?_, fun j y => absurd y (by omega)⟩) (by omega) (by omega)⟩
      have f2 := G2.z.mp z
      have := P2 f2
      rw [zz f2] at this
      rw [Q3.2 21 (by simp)]
      exact this
    refine B_X9_readFront_7 C Rt (Nat.le_refl 0) (Nat.le_refl 0) ⟨fun q => out (fun _ => by have := (nI_leI (by omega) (by omega)).mp q; omega), fun q => X2.gI 17 rfl ⟨fun z => out (fun y => absurd (G2.z.mpr y) z), fun z => ?_⟩⟩
    have hk2 : k < n := by
      rcases Nat.lt_or_ge k n with y | y
      · exact y
      · exact absurd (nI_le y (by omega)) q
    have p1 := P2 (G2.z.mp z)
    refine X2.gR 21 rfl (X2.gR 18 rfl (X2.lL k (by omega) rfl (m_told fun y hy => X2.st 21 k (by decide) (show k < 1000 by omega) rfl fun h3 X3 => ?_)))
    rw [nI_add]
    exact ih (k + 1) _ h3 X3 (Q2.trans (mK.sa (by decide))) G2 c2 (fun _ => p1.up hy) (by omega) (by omega)
end ZNF
