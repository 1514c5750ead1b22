theorem znmul (a b : Nat) : nI a * nI b = nI (a * b) := (Int32.ofNat_mul a b).symm
theorem znsub {a b : Nat} (h : b ≤ a) : nI a - nI b = nI (a - b) := by
  have e : nI (a - b) + nI b = nI a := by rw [nI_add, Nat.sub_add_cancel h]
  rw [← e, Int32.add_sub_cancel]
theorem zndiv {a b : Nat} (ha : a < 2 ^ 31) (hb : b < 2 ^ 31) : nI a / nI b = nI (a / b) := by
  apply Int32.toInt_inj.mp
  have hq : a / b ≤ a := Nat.div_le_self a b
  rw [Int32.toInt_div, nI_toInt ha, nI_toInt hb, nI_toInt (by omega), ← Int.ofNat_tdiv]
  generalize a / b = c at *
  exact Int.bmod_eq_of_le (by omega) (by omega)
theorem zn0 {a : Nat} (ha : a < 2 ^ 31) : nI a = 0 ↔ a = 0 := nI_eq (b := 0) ha (by decide)
/-- only where it reads, and the fault, have changed; without a fault it hasn't passed e -/
def mV (e : Nat) (s s' : mS) : Prop := (∀ k, k ≠ 16 → k ≠ 17 → s'.fi k = s.fi k) ∧ s'.ai = s.ai ∧ s'.lg = s.lg ∧ s'.fi 17 ≤ 7 ∧ (s'.fi 17 = 0 → s.fi 17 = 0 ∧ s.fi 16 ≤ s'.fi 16 ∧ s'.fi 16 ≤ e)
theorem mV.trans {e : Nat} {s s' s'' : mS} (h1 : mV e s s') (h2 : mV e s' s'') : mV e s s'' :=
  ⟨fun k a b => (h2.1 k a b).trans (h1.1 k a b), h2.2.1.trans h1.2.1, h2.2.2.1.trans h1.2.2.1, h2.2.2.2.1, fun q => ⟨(h1.2.2.2.2 (h2.2.2.2.2 q).1).1, Nat.le_trans (h1.2.2.2.2 (h2.2.2.2.2 q).1).2.1 (h2.2.2.2.2 q).2.1, (h2.2.2.2.2 q).2.2⟩⟩
theorem mV.rf {e : Nat} {s : mS} (h7 : s.fi 17 ≤ 7) (ha : s.fi 17 = 0 → s.fi 16 ≤ e) : mV e s s := ⟨fun _ _ _ => rfl, rfl, rfl, h7, fun q => ⟨q, Nat.le_refl _, ha q⟩⟩
theorem mV.flt {e : Nat} {s : mS} {v : Nat} (h1 : 1 ≤ v) (h7 : v ≤ 7) : mV e s (s.pf 17 v) := ⟨fun _ _ b => if_neg b, rfl, rfl, h7, fun q => absurd (show v = 0 from q) (by omega)⟩
theorem mV.step {e : Nat} {s : mS} (h7 : s.fi 17 ≤ 7) {v : Nat} (h1 : s.fi 16 ≤ v) (h2 : s.fi 17 = 0 → v ≤ e) : mV e s (s.pf 16 v) := ⟨fun _ a _ => if_neg a, rfl, rfl, h7, fun q => ⟨q, h1, h2 q⟩⟩
section ZMT
variable {K : zm_K} {ad : Nat → Nat} {s : mS} {h : zm_H}
theorem r_putVarint (X : zM K ad s h) {x n : Nat} (h64 : x < 2 ^ 64) (hx : x < 2 ^ (7 * (n + 1))) (ho : s.fi 15 + (n + 1) ≤ 60000) : zm_Ct K M_X9_putVarint [.ref (ad 0), .long (lN x)] h (poO K ad s (n + 1)) := by
  refine zm_meet (by decide) (Nat.le_of_ble_eq_true rfl) ?_
  intro E C Rt _
  refine B_X9_putVarint_0 C Rt ?_
  suffices key : ∀ (k x a : Nat) (s1 : mS) (h1 : zm_H), zM K ad s1 h1 → mO a s s1 → a + (k + 1) ≤ n + 1 → x < 2 ^ 64 → x < 2 ^ (7 * (k + 1)) → zm_Go E 0 0 2 [(0, .ref (ad 0)), (3, .long (lN x))] [] h1 from key n x 0 s h X (mO.rf 0 s) (by omega) h64 hx
  intro k
  induction k with
  | zero =>
    intro x a s1 h1 X1 O1 ha h64 hx
    have hx' : x < 128 := hx
    have hi := O1.hi
    refine B_X9_putVarint_2 C Rt (Nat.le_refl 0) (Nat.le_refl 0) ⟨fun g => ?_, fun g => ⟨fun g2 => ?_, fun g2 => ?_⟩⟩
    · exact absurd ((lN_lt (by omega) (by decide)).mp ((lg_cmp_lt _ _).mp g)) (by omega)
    · exact m_put X1 (by omega) fun s2 h2 X2 O2 => ⟨rfl, s2, X2, (O1.trans O2).mono (by omega)⟩
    · exact absurd ((lg_cmp_le _ _).mpr ((lN_le (by omega) (by decide)).mpr (by omega))) g2
  | succ k ih =>
    intro x a s1 h1 X1 O1 ha h64 hx
    have hi := O1.hi
    have go : ∀ (s2 : mS) (h2 : zm_H), zM K ad s2 h2 → mO 1 s1 s2 → zm_Go E 0 0 2 [(0, .ref (ad 0)), (3, .long (((lN x).toUInt64 >>> ((nI 7).toInt64.toUInt64 &&& Int64.toUInt64 63)).toInt64))] [] h2 := by
      intro s2 h2 X2 O2
      rw [wb_shr h64 (by decide)]
      refine ih (x / 2 ^ 7) (a + 1) s2 h2 X2 (O1.trans O2) (by omega) (by omega) ?_
      refine Nat.div_lt_of_lt_mul ?_
      rw [← Nat.pow_add]
      rw [show 7 + 7 * (k + 1) = 7 * (k + 1 + 1) by omega]
      exact hx
    refine B_X9_putVarint_2 C Rt (Nat.le_refl 0) (Nat.le_refl 0) ⟨fun g => ?_, fun g => ⟨fun g2 => ?_, fun g2 => ?_⟩⟩
    · exact m_put X1 (by omega) go
    · exact m_put X1 (by omega) fun s2 h2 X2 O2 => ⟨rfl, s2, X2, (O1.trans O2).mono (by omega)⟩
    · exact m_put X1 (by omega) go
/-- any long takes at most ten bytes -/
theorem m_putVarint (X : zM K ad s h) {y : Int64} (ho : s.fi 15 + 10 ≤ 60000) {F : zm_H → Prop} (hF : ∀ s' h', zM K ad s' h' → mO 10 s s' → F h') : zm_rc h (ad 0) 9 ∧ zm_cv K M_X9_putVarint [.ref (ad 0), .long y] h F := by
  obtain ⟨x, hx, rfl⟩ := wb_of y
  exact ⟨X.rc, m_cv (r_putVarint (n := 9) X hx (Nat.lt_trans hx (by decide)) ho) hF⟩
def poV (K : zm_K) (ad : Nat → Nat) (s : mS) (e : Nat) : zm_Po := fun r h' => (∃ y : Int64, r = some (.long y)) ∧ ∃ s', zM K ad s' h' ∧ mV e s s'
theorem r_varint (X : zM K ad s h) {e : Nat} (he : e ≤ 24000) (h7 : s.fi 17 ≤ 7) (ha : s.fi 17 = 0 → s.fi 16 ≤ e) : zm_Ct K M_X9_varint [.ref (ad 0), .int (nI e)] h (poV K ad s e) := by
  refine zm_meet (by decide) (Nat.le_of_ble_eq_true rfl) ?_
  intro E C Rt _
  refine B_X9_varint_0 C Rt ?_
  suffices key : ∀ (m k : Nat) (l : Int64) (s1 : mS) (h1 : zm_H), zM K ad s1 h1 → mV e s s1 → k ≤ 9 → 1 ≤ m → (s1.fi 17 = 0 → 11 - k ≤ m) → zm_Go E 0 0 5 [(0, .ref (ad 0)), (1, .int (nI e)), (2, .long l), (4, .int (nI k))] [] h1 from key 11 0 _ s h X (mV.rf h7 ha) (by omega) (by omega) (by omega)
  intro m
  induction m with
  | zero => intro k l s1 h1 _ _ _ g; omega
  | succ m ih =>
    intro k l s1 h1 X1 V1 hk hm hm2
    have h71 := V1.2.2.2.1
    have z17 := zn0 (a := s1.fi 17) (by omega)
    refine B_X9_varint_5 C Rt (Nat.le_refl 0) (Nat.le_refl 0) (X1.gI 17 rfl ⟨fun _ => ⟨⟨_, rfl⟩, s1, X1, V1⟩, fun g0 => ?_⟩)
    have f0 := z17.mp g0
    have hm3 := hm2 f0
    have hat := (V1.2.2.2.2 f0).2.2
    have gF : ∀ (s2 : mS) (h2 : zm_H) (v : Nat), zM K ad s2 h2 → mV e s1 s2 → 1 ≤ v → v ≤ 7 → zm_pf h2 (ad 0) 9 17 (.int (nI v)) fun h3 => zm_Go E 0 0 5 [(0, .ref (ad 0)), (1, .int (nI e)), (2, .long l), (4, .int (nI k))] [] h3 := by
      intro s2 h2 v X2 V2 hv hv7
      refine X2.pf 17 v rfl (by decide) rfl fun h3 X3 => ?_
      exact ih k l _ h3 X3 ((V1.trans V2).trans (mV.flt hv hv7)) hk (by omega) (fun q => absurd (show v = 0 from q) (by omega))
    refine X1.gI 16 rfl ⟨fun g => ?_, fun g => ?_⟩
    · have hlt : s1.fi 16 < e := (nI_ltI (by omega) (by omega)).mp g
      refine X1.gR 11 rfl (X1.gI 16 rfl (X1.ld 11 (s1.fi 16) (by decide) (show s1.fi 16 < 24000 by omega) rfl (X1.gI 16 rfl (X1.pf 16 (s1.fi 16 + 1) rfl (by decide) (nI_add _ _) fun h2 X2 => ?_))))
      have V2 : mV e s1 (s1.pf 16 (s1.fi 16 + 1)) := mV.step h71 (by omega) (by omega)
      have gB : k ≤ 8 → ∀ (y : Int64) (b : Int32), ((nI 128 ≤ b → zm_Go E 0 0 5 [(0, .ref (ad 0)), (1, .int (nI e)), (2, .long y), (4, .int (nI k + nI 1))] [] h2) ∧ (¬ nI 128 ≤ b → poV K ad s e (some (.long y)) h2)) := by
        intro hk8 y b
        refine ⟨fun _ => ?_, fun _ => ⟨⟨_, rfl⟩, _, X2, V1.trans V2⟩⟩
        rw [nI_add]
        exact ih (k + 1) y _ h2 X2 (V1.trans V2) (by omega) (by omega) (by omega)
      have h9 : nI k = nI 9 ↔ k = 9 := nI_eq (by omega) (by decide)
      refine ⟨fun g9 => ?_, fun g9 => ⟨fun _ => gF _ h2 2 X2 V2 (by decide) (by decide), fun gb => ?_⟩⟩
      · have hk8 : k ≤ 8 := by
          rcases Nat.lt_or_ge k 9 with q | q
          · omega
          · exact absurd (h9.mpr (by omega)) g9
        exact ⟨fun _ => gB hk8 _ _, fun _ => ⟨fun _ => gB hk8 _ _, fun _ => gF _ h2 2 X2 V2 (by decide) (by decide)⟩⟩
      · have no : ¬ nI 128 ≤ s1.ai 11 (s1.fi 16) := by
          rw [Int32.le_iff_toInt_le]
          rw [Int32.lt_iff_toInt_lt] at gb
          have e1 : (nI 1).toInt = 1 := by decide
          have e2 : (nI 128).toInt = 128 := by decide
          omega
        exact ⟨fun _ => ⟨fun q => absurd q no, fun _ => ⟨⟨_, rfl⟩, _, X2, V1.trans V2⟩⟩, fun _ => ⟨fun _ => ⟨fun q => absurd q no, fun _ => ⟨⟨_, rfl⟩, _, X2, V1.trans V2⟩⟩, fun _ => gF _ h2 2 X2 V2 (by decide) (by decide)⟩⟩
    · exact gF s1 h1 1 X1 (mV.rf h71 (fun _ => hat)) (by decide) (by decide)
theorem m_varint (X : zM K ad s h) {e : Nat} (he : e ≤ 24000) (h7 : s.fi 17 ≤ 7) (ha : s.fi 17 = 0 → s.fi 16 ≤ e) {F : Int64 → zm_H → Prop} (hF : ∀ y s' h', zM K ad s' h' → mV e s s' → F y h') : zm_rc h (ad 0) 9 ∧ zm_cl K M_X9_varint [.ref (ad 0), .int (nI e)] h F :=
  ⟨X.rc, _, r_varint X he h7 ha, fun r h' q => by
    obtain ⟨⟨y, rfl⟩, s', X', V'⟩ := q
    exact ⟨y, rfl, hF y s' h' X' V'⟩⟩
end ZMT
