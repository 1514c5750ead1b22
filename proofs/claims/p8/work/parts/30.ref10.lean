/-- only the listed fields and arrays have changed -/
def mK (A B : List Nat) (s s' : mS) : Prop := (∀ k, k ∉ A → s'.fi k = s.fi k) ∧ ∀ j, j ∉ B → s'.ai j = s.ai j
theorem mK.rf (A B : List Nat) (s : mS) : mK A B s s := ⟨fun _ _ => rfl, fun _ _ => rfl⟩
theorem mK.trans {A B : List Nat} {s s' s'' : mS} (h1 : mK A B s s') (h2 : mK A B s' s'') : mK A B s s'' := ⟨fun k q => (h2.1 k q).trans (h1.1 k q), fun k q => (h2.2 k q).trans (h1.2 k q)⟩
theorem mK.mono {A B A' B' : List Nat} {s s' : mS} (h1 : mK A B s s') (ha : ∀ k, k ∈ A → k ∈ A') (hb : ∀ k, k ∈ B → k ∈ B') : mK A' B' s s' := ⟨fun k q => h1.1 k (fun z => q (ha k z)), fun k q => h1.2 k (fun z => q (hb k z))⟩
theorem mK.pf {A B : List Nat} {s : mS} {k v : Nat} (hk : k ∈ A) : mK A B s (s.pf k v) := ⟨fun j q => if_neg (fun z => q (by rw [z]; exact hk)), fun _ _ => rfl⟩
theorem mK.sa {A B : List Nat} {s : mS} {j k : Nat} {x : Int32} (hj : j ∈ B) : mK A B s (s.sa j k x) := ⟨fun _ _ => rfl, fun q hq => if_neg (fun z => hq (by rw [z]; exact hj))⟩
theorem mK.sl {A B : List Nat} {s : mS} {k : Nat} {x : Int64} : mK A B s (s.sl k x) := ⟨fun _ _ => rfl, fun _ _ => rfl⟩
theorem mV.k {e : Nat} {s s' : mS} (V : mV e s s') {A B : List Nat} (h16 : 16 ∈ A) (h17 : 17 ∈ A) : mK A B s s' := ⟨fun k q => V.1 k (fun z => q (by rw [z]; exact h16)) (fun z => q (by rw [z]; exact h17)), fun j _ => by rw [V.2.1]⟩
/-- where it reads: without a fault not behind e -/
def mG (e : Nat) (s : mS) : Prop := s.fi 17 ≤ 7 ∧ (s.fi 17 = 0 → s.fi 16 ≤ e)
theorem mV.g {e : Nat} {s s' : mS} (V : mV e s s') : mG e s' := ⟨V.2.2.2.1, fun q => (V.2.2.2.2 q).2.2⟩
theorem mG.flt {e v : Nat} {s : mS} (h1 : 1 ≤ v) (h7 : v ≤ 7) : mG e (s.pf 17 v) := ⟨h7, fun q => absurd (show v = 0 from q) (by omega)⟩
theorem mG.z {e : Nat} {s : mS} (G : mG e s) : nI (s.fi 17) = 0 ↔ s.fi 17 = 0 := zn0 (by have := G.1; omega)
/-- the new row -/
def mN (s : mS) (g : Nat → Nat) : Prop := s.fi 8 ≤ 1000 ∧ (∀ k, s.ai 2 k = nI (g k)) ∧ (∀ k, g k ≤ 20000) ∧ ∀ k, k < s.fi 8 → g k ≤ g (k + 1) ∧ g (k + 1) ≤ g k + 255
theorem mN.of {s s' : mS} {g : Nat → Nat} (R : mN s g) (h1 : s'.fi 8 = s.fi 8) (h2 : s'.ai 2 = s.ai 2) : mN s' g := by
  unfold mN
  rw [h1, h2]
  exact R
theorem mN.up {s : mS} {g : Nat → Nat} (R : mN s g) (hc : s.fi 8 < 1000) {y : Nat} (h1 : g (s.fi 8) ≤ y) (h2 : y ≤ g (s.fi 8) + 255) (h3 : y ≤ 20000) : mN ((s.pf 8 (s.fi 8 + 1)).sa 2 (s.fi 8 + 1) (nI y)) (zup g (s.fi 8 + 1) y) := by
  refine ⟨show s.fi 8 + 1 ≤ 1000 by omega, fun k => ?_, fun k => zup_le R.2.2.1 h3 k, fun k hk => ?_⟩
  · show upd (s.ai 2) (s.fi 8 + 1) (nI y) k = nI (zup g (s.fi 8 + 1) y k)
    by_cases q : k = s.fi 8 + 1
    · rw [upd, if_pos q, zup, if_pos q]
    · rw [upd, if_neg q, zup, if_neg q]
      exact R.2.1 k
  · have hk2 : k < s.fi 8 + 1 := hk
    rw [zup, if_neg (by omega)]
    by_cases q : k = s.fi 8
    · subst q
      rw [zup, if_pos rfl]
      exact ⟨h1, h2⟩
    · rw [zup, if_neg (by omega)]
      exact R.2.2.2 k (by omega)
/-- what taking texts leaves: the reading's state at its end -/
def poT (K : zm_K) (ad : Nat → Nat) (s : mS) (e n : Nat) : zm_Po := fun r h' => r = none ∧ ∃ s', zM K ad s' h' ∧ mK [8, 16, 17] [2, 5] s s' ∧ s'.lg = s.lg ∧ mG e s' ∧ (∃ g, mN s' g) ∧ (s'.fi 17 = 0 → s'.fi 8 = s.fi 8 + n)
section ZNC
variable {K : zm_K} {ad : Nat → Nat} {s : mS} {h : zm_H} {g : Nat → Nat} {T : Nat}
theorem r_take (X : zM K ad s h) (hz : s.fi 14 ≤ 24000) (h0 : s.fi 17 = 0) (ha : s.fi 16 ≤ s.fi 14) (R : mN s g) (hc : s.fi 8 < 1000) {n b : Nat} (hn : n + b ≤ 255) (hb : b = 0 ∨ (1 ≤ s.fi 8 ∧ g (s.fi 8 - 1) + b ≤ g (s.fi 8))) : zm_Ct K M_X9_take [.ref (ad 0), .int (nI n), .int (nI b)] h (poT K ad s (s.fi 14) 1) := by
  refine zm_meet (by decide) (Nat.le_of_ble_eq_true rfl) ?_
  intro E C Rt _
  have hgc := R.2.2.1 (s.fi 8)
  have bad : ∀ v, 1 ≤ v → v ≤ 7 → zm_pf h (ad 0) 9 17 (.int (nI v)) fun h1 => zm_gI h1 (ad 0) 9 17 fun v10 => (v10 = 0 → zm_gR h1 (ad 0) 9 2 fun v11 => zm_gI h1 (ad 0) 9 8 fun v12 => zm_ld K 1 h1 v11 v12 fun v13 => zm_Go E 0 0 67 [(0, .ref (ad 0)), (1, .int (nI n)), (2, .int (nI b)), (3, .int v13), (4, .int (nI 0))] [] h1) ∧ (¬ v10 = 0 → poT K ad s (s.fi 14) 1 none h1) := by
    intro v hv hv7
    refine X.pf 17 v rfl (by decide) rfl fun h1 X1 => X1.gI 17 rfl ⟨fun q => absurd ((zn0 (show v < 2 ^ 31 by omega)).mp q) (by omega), fun _ => ⟨rfl, _, X1, mK.pf (by decide), rfl, mG.flt hv hv7, ⟨g, R⟩, fun q => absurd (show v = 0 from q) (by omega)⟩⟩
  refine B_X9_take_0 C Rt (Nat.le_refl 0) (Nat.le_refl 0) (X.gI 14 rfl (X.gI 16 rfl ⟨fun g1 => X.gR 2 rfl (X.gI 8 rfl (X.ld 2 (s.fi 8) (by decide) (show s.fi 8 < 1001 by omega) rfl ⟨fun g2 => X.gI 17 rfl ⟨fun _ => X.gR 2 rfl (X.gI 8 rfl (X.ld 2 (s.fi 8) (by decide) (show s.fi 8 < 1001 by omega) rfl ?_)), fun q => absurd (by rw [h0]; rfl) q⟩, fun _ => bad 7 (by decide) (by decide)⟩)), fun _ => bad 1 (by decide) (by decide)⟩))
  have hat : n + s.fi 16 ≤ s.fi 14 := (zle_sub (by omega) (by omega) (by omega)).mp g1
  rw [R.2.1, nI_add, nI_add] at g2
  have hto : g (s.fi 8) + b + n ≤ 20000 := (nI_leI (by omega) (by decide)).mp g2
  rw [R.2.1]
  have k110 : ∀ (m i : Nat) (s2 : mS) (h2 : zm_H), zM K ad s2 h2 → mK [] [5] s s2 → s2.lg = s.lg → i ≤ n → n - i < m → zm_Go E 0 0 110 [(0, .ref (ad 0)), (1, .int (nI n)), (2, .int (nI b)), (3, .int (nI (g (s.fi 8)))), (4, .int (nI i))] [] h2 := by
    intro m
    induction m with
    | zero => intro i s2 h2 _ _ _ _ q; omega
    | succ m ih =>
      intro i s2 h2 X2 Q2 L2 hi hm
      have e16 := Q2.1 16 (by decide)
      have e17 := Q2.1 17 (by decide)
      have e8 := Q2.1 8 (by decide)
      have a2 := Q2.2 2 (by decide)
      refine B_X9_take_110 C Rt (Nat.le_refl 0) (Nat.le_refl 0) ⟨fun _ => ?_, fun q => ?_⟩
      · refine X2.gI 16 rfl (X2.pf 16 (s2.fi 16 + n) rfl (by decide) (nI_add _ _) fun h3 X3 => X3.gI 8 rfl (X3.pf 8 (s2.fi 8 + 1) rfl (by decide) (nI_add _ _) fun h4 X4 => X4.gR 2 rfl (X4.gI 8 rfl (X4.st 2 (s2.fi 8 + 1) (by decide) (show s2.fi 8 + 1 < 1001 by omega) rfl fun h5 X5 => ?_))))
        rw [nI_add, nI_add] at X5
        have N2 : mN (s2.pf 16 (s2.fi 16 + n)) g := R.of e8 a2
        have N5 := N2.up (y := g (s.fi 8) + b + n) (show s2.fi 8 < 1000 by omega) (show g (s2.fi 8) ≤ _ by rw [e8]; omega) (show _ ≤ g (s2.fi 8) + 255 by rw [e8]; omega) hto
        refine ⟨rfl, _, X5, ((Q2.mono (fun _ z => absurd z (by simp)) (by simp)).trans (((mK.pf (by decide)).trans (mK.pf (by decide))).trans (mK.sa (by decide)))), L2, ⟨show s2.fi 17 ≤ 7 by omega, fun _ => show s2.fi 16 + n ≤ s.fi 14 by omega⟩, ⟨_, N5⟩, fun _ => show s2.fi 8 + 1 = s.fi 8 + 1 by omega⟩
      · have hi2 : i < n := by
          rcases Nat.lt_or_ge i n with z | z
          · exact z
          · exact absurd (nI_le z (by omega)) q
        refine X2.gR 5 rfl (X2.gR 11 rfl (X2.gI 16 rfl (X2.ld 11 (s2.fi 16 + i) (by decide) (show s2.fi 16 + i < 24000 by omega) (nI_add _ _) (X2.st 5 (g (s.fi 8) + b + i) (by decide) (show _ < 20000 by omega) (by rw [nI_add, nI_add]) fun h3 X3 => ?_))))
        rw [nI_add]
        exact ih (i + 1) _ h3 X3 (Q2.trans (mK.sa (by decide))) L2 (by omega) (by omega)
  suffices k67 : ∀ (m i : Nat) (s2 : mS) (h2 : zm_H), zM K ad s2 h2 → mK [] [5] s s2 → s2.lg = s.lg → i ≤ b → b - i < m → zm_Go E 0 0 67 [(0, .ref (ad 0)), (1, .int (nI n)), (2, .int (nI b)), (3, .int (nI (g (s.fi 8)))), (4, .int (nI i))] [] h2 from k67 256 0 s h X (mK.rf _ _ _) rfl (by omega) (by omega)
  intro m
  induction m with
  | zero => intro i s2 h2 _ _ _ _ q; omega
  | succ m ih =>
    intro i s2 h2 X2 Q2 L2 hi hm
    have e8 := Q2.1 8 (by decide)
    have a2 := Q2.2 2 (by decide)
    refine B_X9_take_67 C Rt ⟨fun _ => k110 256 0 s2 h2 X2 Q2 L2 (by omega) (by omega), fun q => ?_⟩
    have hi2 : i < b := by
      rcases Nat.lt_or_ge i b with z | z
      · exact z
      · exact absurd (nI_le z (by omega)) q
    rcases hb with hb0 | ⟨hb1, hb2⟩
    · omega
    refine X2.gR 5 rfl (X2.gR 5 rfl (X2.gR 2 rfl (X2.gI 8 rfl (X2.ld 2 (s.fi 8 - 1) (by decide) (show _ < 1001 by omega) (by rw [e8, znsub hb1]) (X2.ld 5 (g (s.fi 8 - 1) + i) (by decide) (show _ < 20000 by omega) (by rw [a2, R.2.1, nI_add]) (X2.st 5 (g (s.fi 8) + i) (by decide) (show _ < 20000 by omega) (nI_add _ _) fun h3 X3 => ?_))))))
    rw [nI_add]
    exact ih (i + 1) _ h3 X3 (Q2.trans (mK.sa (by decide))) L2 (by omega) (by omega)
end ZNC
