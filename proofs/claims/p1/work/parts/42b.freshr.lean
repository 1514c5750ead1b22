/-! the first call on a fresh object: reading no bytes -/
def zS9 (K : zm_K) (ad : Nat → Nat) (rw : Bool) (h : zm_H) (f : Nat) : Prop := zX K ad false rw 0 h ∧ h (ad 28) = some (.inr (7, [.ref (ad 6), .int (nI 0), .int (nI 0), .int (nI f)]))
section ZF3
variable {K : zm_K} {ad : Nat → Nat} {rw : Bool} {h : zm_H}
theorem zS9.eq {f : Nat} (S : zS9 K ad rw h f) : zhS h (ad 28) (ad 6) (nI 0) (nI 0) (nI f) = h := zm_set_id S.2
theorem v_failed0 (S : zS9 K ad rw h 0) {F : Int32 → zm_H → Prop} (hF : F (nI 0) h) : zm_rc h (ad 28) 7 ∧ zm_ci K M_X7_failed [.ref (ad 28)] h F := by
  have M := k_X7_failed (K := K) (h := h) (s := ad 28) (ca := ad 6) (at9 := nI 0) (lim := nI 0) (flt := nI 0)
  rw [S.eq] at M
  refine ⟨t_src S.1, _, M, fun r h' q => ?_⟩
  obtain ⟨rfl, q⟩ := q
  rcases q with ⟨_, rfl⟩ | ⟨z, rfl⟩
  · exact ⟨_, rfl, hF⟩
  · exact absurd rfl z
theorem v_failed1 (S : zS9 K ad rw h 1) {F : Int32 → zm_H → Prop} (hF : F (nI 1) h) : zm_rc h (ad 28) 7 ∧ zm_ci K M_X7_failed [.ref (ad 28)] h F := by
  have M := k_X7_failed (K := K) (h := h) (s := ad 28) (ca := ad 6) (at9 := nI 0) (lim := nI 0) (flt := nI 1)
  rw [S.eq] at M
  refine ⟨t_src S.1, _, M, fun r h' q => ?_⟩
  obtain ⟨rfl, q⟩ := q
  rcases q with ⟨z, rfl⟩ | ⟨_, rfl⟩
  · exact absurd z (by decide)
  · exact ⟨_, rfl, hF⟩
theorem v_fail1 (S : zS9 K ad rw h 1) {x : Int32} {F : zm_H → Prop} (hF : F h) : zm_rc h (ad 28) 7 ∧ zm_cv K M_X7_fail [.ref (ad 28), .int x] h F := by
  have M := k_X7_fail (K := K) (h := h) (s := ad 28) (ca := ad 6) (at9 := nI 0) (lim := nI 0) (flt := nI 1) (x := x)
  rw [S.eq] at M
  refine ⟨t_src S.1, _, M, fun r h' q => ?_⟩
  obtain ⟨rfl, rfl⟩ := q
  rw [if_neg (show ¬ nI 1 = 0 by decide), S.eq]
  exact ⟨rfl, hF⟩
theorem v_fail0 (S : zS9 K ad rw h 0) {F : zm_H → Prop} (hF : ∀ h', zS9 K ad rw h' 1 → F h') : zm_rc h (ad 28) 7 ∧ zm_cv K M_X7_fail [.ref (ad 28), .int (nI 1)] h F := by
  have M := k_X7_fail (K := K) (h := h) (s := ad 28) (ca := ad 6) (at9 := nI 0) (lim := nI 0) (flt := nI 0) (x := nI 1)
  rw [S.eq] at M
  refine ⟨t_src S.1, _, M, fun r h' q => ?_⟩
  obtain ⟨rfl, rfl⟩ := q
  rw [if_pos (show nI 0 = 0 by decide)]
  exact ⟨rfl, hF _ ⟨S.1.set 28 (by decide) ⟨6, _, _, _, by decide, rfl⟩, zhS_s⟩⟩
theorem zS9.g1 {f : Nat} (S : zS9 K ad rw h f) {F : Int32 → Prop} (hF : F (nI 0)) : zm_gI h (ad 28) 7 1 F := by
  simp only [zm_gI, S.2, List.getElem?_cons_zero, List.getElem?_cons_succ, true_and]
  exact hF
theorem zS9.g2 {f : Nat} (S : zS9 K ad rw h f) {F : Int32 → Prop} (hF : F (nI 0)) : zm_gI h (ad 28) 7 2 F := by
  simp only [zm_gI, S.2, List.getElem?_cons_zero, List.getElem?_cons_succ, true_and]
  exact hF
theorem zS9.g3 {f : Nat} (S : zS9 K ad rw h f) {F : Int32 → Prop} (hF : F (nI f)) : zm_gI h (ad 28) 7 3 F := by
  simp only [zm_gI, S.2, List.getElem?_cons_zero, List.getElem?_cons_succ, true_and]
  exact hF
theorem c_next0 (S : zS9 K ad rw h 0) : zm_Ct K M_X7_nextByte [.ref (ad 28)] h (fun r h' => r = some (.int (nI 0)) ∧ zS9 K ad rw h' 1) := by
  refine zm_meet (by decide) (Nat.le_of_ble_eq_true rfl) ?_
  intro E C Rt _
  exact B_X7_nextByte_0 C Rt (Nat.le_refl 0) (Nat.le_refl 0) (S.g1 ⟨fun z => absurd z (by decide), fun _ => S.g1 (S.g2 ⟨fun _ => v_fail0 S fun h' S' => ⟨rfl, S'⟩, fun z => absurd (by decide) z⟩)⟩)
theorem c_next1 (S : zS9 K ad rw h 1) : zm_Ct K M_X7_nextByte [.ref (ad 28)] h (fun r h' => r = some (.int (nI 0)) ∧ h' = h) := by
  refine zm_meet (by decide) (Nat.le_of_ble_eq_true rfl) ?_
  intro E C Rt _
  exact B_X7_nextByte_0 C Rt (Nat.le_refl 0) (Nat.le_refl 0) (S.g1 ⟨fun z => absurd z (by decide), fun _ => S.g1 (S.g2 ⟨fun _ => v_fail1 S ⟨rfl, rfl⟩, fun z => absurd (by decide) z⟩)⟩)
theorem v_next0 (S : zS9 K ad rw h 0) {F : Int32 → zm_H → Prop} (hF : ∀ h', zS9 K ad rw h' 1 → F (nI 0) h') : zm_rc h (ad 28) 7 ∧ zm_ci K M_X7_nextByte [.ref (ad 28)] h F := ⟨t_src S.1, _, c_next0 S, fun r h' q => by
  obtain ⟨rfl, S'⟩ := q
  exact ⟨_, rfl, hF h' S'⟩⟩
theorem v_next1 (S : zS9 K ad rw h 1) {F : Int32 → zm_H → Prop} (hF : F (nI 0) h) : zm_rc h (ad 28) 7 ∧ zm_ci K M_X7_nextByte [.ref (ad 28)] h F := ⟨t_src S.1, _, c_next1 S, fun r h' q => by
  obtain ⟨rfl, rfl⟩ := q
  exact ⟨_, rfl, hF⟩⟩
theorem c_varint0 (S : zS9 K ad rw h 0) : zm_Ct K M_X7_varint [.ref (ad 28)] h (fun r h' => (∃ y : Int64, r = some (.long y)) ∧ zS9 K ad rw h' 1) := by
  refine zm_meet (by decide) (Nat.le_of_ble_eq_true rfl) ?_
  intro E C Rt _
  refine B_X7_varint_0 C Rt (B_X7_varint_4 C Rt (Nat.le_refl 0) (Nat.le_refl 0) ⟨fun z => absurd z (by decide), fun _ => v_failed0 S ⟨fun z => absurd rfl z, fun _ => v_next0 S fun h' S' => ⟨fun _ => ⟨fun _ => ?_, fun z => absurd (by decide) z⟩, fun z => absurd z (by decide)⟩⟩⟩)
  exact B_X7_varint_69 C Rt (B_X7_varint_70 C Rt ⟨fun z => absurd rfl z, fun _ => ⟨fun _ => B_X7_varint_87 C Rt (Nat.le_refl 0) (Nat.le_refl 0) ⟨fun z => absurd z (by decide), fun _ => ⟨⟨_, rfl⟩, S'⟩⟩, fun z => absurd rfl z⟩⟩)
theorem v_varint0 (S : zS9 K ad rw h 0) {F : Int64 → zm_H → Prop} (hF : ∀ y h', zS9 K ad rw h' 1 → F y h') : zm_rc h (ad 28) 7 ∧ zm_cl K M_X7_varint [.ref (ad 28)] h F := ⟨t_src S.1, _, c_varint0 S, fun r h' q => by
  obtain ⟨⟨y, rfl⟩, S'⟩ := q
  exact ⟨_, rfl, hF y h' S'⟩⟩
theorem c_holds1 (S : zS9 K ad rw h 1) {x : Int64} : zm_Ct K M_X7_holds [.ref (ad 28), .long x] h (fun r h' => r = some (.int (nI 0)) ∧ h' = h) := by
  refine zm_meet (by decide) (Nat.le_of_ble_eq_true rfl) ?_
  intro E C Rt _
  exact B_X7_holds_0 C Rt (Nat.le_refl 0) (Nat.le_refl 0) (S.g3 ⟨fun _ => S.g3 ⟨fun _ => ⟨rfl, rfl, rfl⟩, fun z => absurd z (by decide)⟩, fun z => absurd z (by decide)⟩)
theorem v_holds1 (S : zS9 K ad rw h 1) {x : Int64} {F : Int32 → zm_H → Prop} (hF : F (nI 0) h) : zm_rc h (ad 28) 7 ∧ zm_ci K M_X7_holds [.ref (ad 28), .long x] h F := ⟨t_src S.1, _, c_holds1 S, fun r h' q => by
  obtain ⟨rfl, rfl⟩ := q
  exact ⟨_, rfl, hF⟩⟩
theorem c_expect {f : Nat} (S : zS9 K ad rw h f) : zm_Ct K M_X7_expectEnd [.ref (ad 28)] h (fun r h' => r = none ∧ h' = h) := by
  refine zm_meet (by decide) (Nat.le_of_ble_eq_true rfl) ?_
  intro E C Rt _
  exact B_X7_expectEnd_0 C Rt (Nat.le_refl 0) (Nat.le_refl 0) (S.g1 (S.g2 ⟨fun _ => ⟨rfl, rfl⟩, fun z => absurd (by decide) z⟩))
theorem v_expect {f : Nat} (S : zS9 K ad rw h f) {F : zm_H → Prop} (hF : F h) : zm_rc h (ad 28) 7 ∧ zm_cv K M_X7_expectEnd [.ref (ad 28)] h F := ⟨t_src S.1, _, c_expect S, fun r h' q => by
  obtain ⟨rfl, rfl⟩ := q
  exact ⟨rfl, hF⟩⟩
def poS9 (K : zm_K) (ad : Nat → Nat) (rw : Bool) (f : Nat) : zm_Po := fun r h' => r = none ∧ zS9 K ad rw h' f
theorem c_textLength (S : zS9 K ad rw h 0) : zm_Ct K M_X2_textLength [.ref (ad 27)] h (fun r h' => r = some (.int (nI 0)) ∧ zS9 K ad rw h' 1) := by
  refine zm_meet (by decide) (Nat.le_of_ble_eq_true rfl) ?_
  intro E C Rt _
  exact B_X2_textLength_0 C Rt (Nat.le_refl 0) (Nat.le_refl 0) (t_g0 S.1 (v_varint0 S fun y h1 S1 => t_isLength fun y2 => ⟨fun _ => t_g0 S1.1 (v_failed1 S1 ⟨fun z => absurd z (by decide), fun _ => ⟨rfl, S1⟩⟩), fun _ => t_g0 S1.1 (v_fail1 S1 (t_g0 S1.1 (v_failed1 S1 ⟨fun z => absurd z (by decide), fun _ => ⟨rfl, S1⟩⟩)))⟩))
theorem c_takeText (S : zS9 K ad rw h 1) {r : Nat} (hr : zV r) {x y : Int32} : zm_Ct K M_X2_takeText [.ref (ad 27), .ref (ad r), .int x, .int y] h (poS9 K ad rw 1) := by
  refine zm_meet (by decide) (Nat.le_of_ble_eq_true rfl) ?_
  intro E C Rt _
  exact B_X2_takeText_0 C Rt (Nat.le_refl 0) (Nat.le_refl 0) (t_holdsMore S.1 hr fun y9 => ⟨fun _ => t_g0 S.1 (v_holds1 S ⟨fun z => absurd rfl z, fun _ => ⟨rfl, S⟩⟩), fun _ => t_g0 S.1 (v_fail1 S (t_g0 S.1 (v_holds1 S ⟨fun z => absurd rfl z, fun _ => ⟨rfl, S⟩⟩)))⟩)
theorem c_takeCode (S : zS9 K ad rw h 0) {a1 : Nat} {x : Int32} : zm_Ct K M_X2_takeCode [.ref (ad 27), .ref a1, .int x] h (poS9 K ad rw 1) := by
  refine zm_meet (by decide) (Nat.le_of_ble_eq_true rfl) ?_
  intro E C Rt _
  exact B_X2_takeCode_0 C Rt (Nat.le_refl 0) (Nat.le_refl 0) (t_g0 S.1 (v_varint0 S fun y h1 S1 => t_g0 S1.1 (v_holds1 S1 ⟨fun z => absurd rfl z, fun _ => ⟨rfl, S1⟩⟩)))
theorem c_plain (S : zS9 K ad rw h 0) {r : Nat} (hr : zV r) {y : Int32} : zm_Ct K M_X2_plain [.ref (ad 27), .ref (ad r), .int y] h (fun v h' => v = none ∧ ((y ≤ nI 0 ∧ zS9 K ad rw h' 0) ∨ (¬ y ≤ nI 0 ∧ zS9 K ad rw h' 1))) := by
  refine zm_meet (by decide) (Nat.le_of_ble_eq_true rfl) ?_
  intro E C Rt _
  refine B_X2_plain_0 C Rt (B_X2_plain_2 C Rt (Nat.le_refl 0) (Nat.le_refl 0) ⟨fun g => t_g0 S.1 (v_expect S ⟨rfl, Or.inl ⟨g, S⟩⟩), fun g => t_g0 S.1 (v_failed0 S ⟨fun z => absurd rfl z, fun _ => ⟨t_grc S.1, _, c_textLength S, fun v h1 q => ?_⟩⟩)⟩)
  obtain ⟨rfl, S1⟩ := q
  refine ⟨_, rfl, t_grc S1.1, _, c_takeText S1 hr, fun v h2 q => ?_⟩
  obtain ⟨rfl, S2⟩ := q
  exact ⟨rfl, B_X2_plain_2 C Rt (Nat.le_refl 0) (Nat.le_refl 0) ⟨fun _ => t_g0 S2.1 (v_expect S2 ⟨rfl, Or.inr ⟨g, S2⟩⟩), fun _ => t_g0 S2.1 (v_failed1 S2 ⟨fun _ => t_g0 S2.1 (v_expect S2 ⟨rfl, Or.inr ⟨g, S2⟩⟩), fun z => absurd z (by decide)⟩)⟩⟩
theorem c_lengths (S : zS9 K ad rw h 0) {a1 : Nat} {y : Int32} : zm_Ct K M_X2_lengths [.ref (ad 27), .ref a1, .int y] h (poS9 K ad rw 1) := by
  refine zm_meet (by decide) (Nat.le_of_ble_eq_true rfl) ?_
  intro E C Rt _
  refine B_X2_lengths_0 C Rt (Nat.le_refl 0) (Nat.le_refl 0) (t_g1 S.1 ⟨t_grc S.1, _, c_takeCode S, fun v h1 q => ?_⟩)
  obtain ⟨rfl, S1⟩ := q
  have fin : zm_Go E 0 0 58 [(0, .ref (ad 27)), (1, .ref a1), (2, .int y), (3, .int (nI 0))] [] h1 := B_X2_lengths_58 C Rt (Nat.le_refl 0) (Nat.le_refl 0) ⟨fun _ => t_g0 S1.1 (v_expect S1 ⟨rfl, S1⟩), fun _ => t_g0 S1.1 (v_failed1 S1 ⟨fun _ => t_g0 S1.1 (v_expect S1 ⟨rfl, S1⟩), fun z => absurd z (by decide)⟩)⟩
  exact ⟨rfl, B_X2_lengths_11 C Rt (Nat.le_refl 0) (Nat.le_refl 0) ⟨fun _ => fin, fun _ => t_g0 S1.1 (v_failed1 S1 ⟨fun _ => fin, fun z => absurd z (by decide)⟩)⟩⟩
theorem c_front (S : zS9 K ad rw h 0) {a1 : Nat} {y : Int32} : zm_Ct K M_X2_front [.ref (ad 27), .ref a1, .int y] h (poS9 K ad rw 1) := by
  refine zm_meet (by decide) (Nat.le_of_ble_eq_true rfl) ?_
  intro E C Rt _
  refine B_X2_front_0 C Rt (Nat.le_refl 0) (Nat.le_refl 0) (t_g1 S.1 ⟨t_grc S.1, _, c_takeCode S, fun v h1 q => ?_⟩)
  obtain ⟨rfl, S1⟩ := q
  refine ⟨rfl, t_g0 S1.1 (v_failed1 S1 ⟨fun _ => ?_, fun z => absurd z (by decide)⟩)⟩
  exact B_X2_front_30 C Rt (Nat.le_refl 0) (Nat.le_refl 0) ⟨fun _ => t_g0 S1.1 (v_expect S1 ⟨rfl, S1⟩), fun _ => t_g0 S1.1 (v_failed1 S1 ⟨fun _ => t_g0 S1.1 (v_expect S1 ⟨rfl, S1⟩), fun z => absurd z (by decide)⟩)⟩
theorem c_readFrom (S : zS9 K ad rw h 1) {x y : Int32} : zm_Ct K M_X6_readFrom [.ref (ad 19), .ref (ad 28), .int x, .int y] h (poS9 K ad rw 1) := by
  refine zm_meet (by decide) (Nat.le_of_ble_eq_true rfl) ?_
  intro E C Rt _
  obtain ⟨c, f, hc, e19, e20, cl19, -⟩ := S.1.runs
  unfold zRn at e19
  refine B_X6_readFrom_0 C Rt ?_
  simp only [zm_pf, e19, List.set_cons_zero, List.set_cons_succ, List.length_cons, List.length_nil, true_and]
  refine ⟨by decide, ?_⟩
  have S1 : zS9 K ad rw (zm_set h (ad 19) (.inr (6, [.ref (ad 20), .int (nI 0)]))) 1 := ⟨cl19 0 (Nat.zero_le _), (zm_set_n (S.1.ne (by decide) (by decide) (by decide))).trans S.2⟩
  have r1 : zRn ad (zm_set h (ad 19) (.inr (6, [.ref (ad 20), .int (nI 0)]))) 0 := zm_set_s _ _ _
  exact B_X6_readFrom_8 C Rt (Nat.le_refl 0) (Nat.le_refl 0) ⟨fun _ => ⟨rfl, S1⟩, fun _ => t_rcGx r1 ⟨fun _ => ⟨rfl, S1⟩, fun _ => v_failed1 S1 ⟨fun _ => ⟨rfl, S1⟩, fun z => absurd z (by decide)⟩⟩⟩
theorem c_dictionary (S : zS9 K ad rw h 0) {a1 : Nat} {y : Int32} : zm_Ct K M_X2_dictionary [.ref (ad 27), .ref a1, .int y] h (poS9 K ad rw 1) := by
  refine zm_meet (by decide) (Nat.le_of_ble_eq_true rfl) ?_
  intro E C Rt _
  have g110 : ∀ (l : Int64) (h1 : zm_H), zS9 K ad rw h1 1 → zm_Go E 0 0 110 [(0, .ref (ad 27)), (1, .ref a1), (2, .int y), (3, .long l), (6, .int (nI 0))] [] h1 := fun l h1 S1 => B_X2_dictionary_110 C Rt (Nat.le_refl 0) (Nat.le_refl 0) ⟨fun _ => ⟨rfl, S1⟩, fun _ => t_g0 S1.1 (v_failed1 S1 ⟨fun _ => ⟨rfl, S1⟩, fun z => absurd z (by decide)⟩)⟩
  have rest : ∀ (l : Int64) (h1 : zm_H), zS9 K ad rw h1 1 → zm_gR h1 (ad 27) 2 3 fun v3 => zm_gR h1 (ad 27) 2 0 fun v4 => zm_rc h1 v3 6 ∧ zm_cv K M_X6_readFrom [.ref v3, .ref v4, .int y, .int (nI 0)] h1 fun h2 => zm_gR h2 (ad 27) 2 0 fun v5 => zm_rc h2 v5 7 ∧ zm_cv K M_X7_expectEnd [.ref v5] h2 fun h3 => zm_Go E 0 0 110 [(0, .ref (ad 27)), (1, .ref a1), (2, .int y), (3, .long l), (6, .int (nI 0))] [] h3 := by
    intro l h1 S1
    refine t_g3 S1.1 (t_g0 S1.1 ⟨t_rrc S1.1, _, c_readFrom S1, fun v h2 q => ?_⟩)
    obtain ⟨rfl, S2⟩ := q
    exact ⟨rfl, t_g0 S2.1 (v_expect S2 (g110 l h2 S2))⟩
  have g32 : ∀ (l : Int64) (h1 : zm_H), zS9 K ad rw h1 1 → zm_Go E 0 0 32 [(0, .ref (ad 27)), (1, .ref a1), (2, .int y), (3, .long l), (5, .int (nI 0))] [] h1 := fun l h1 S1 => B_X2_dictionary_32 C Rt (Nat.le_refl 0) (Nat.le_refl 0) ⟨fun _ => t_g0 S1.1 (v_next1 S1 ⟨fun _ => rest l h1 S1, fun z => absurd (by decide) z⟩), fun _ => t_g0 S1.1 (v_failed1 S1 ⟨fun _ => t_g0 S1.1 (v_next1 S1 ⟨fun _ => rest l h1 S1, fun z => absurd (by decide) z⟩), fun z => absurd z (by decide)⟩)⟩
  exact B_X2_dictionary_0 C Rt (Nat.le_refl 0) (Nat.le_refl 0) (t_g0 S.1 (v_varint0 S fun l h1 S1 => ⟨fun _ => t_g0 S1.1 (v_fail1 S1 (g32 l h1 S1)), fun _ => ⟨fun _ => g32 l h1 S1, fun _ => t_g0 S1.1 (v_fail1 S1 (g32 l h1 S1))⟩⟩))
theorem c_fault {f : Nat} (S : zS9 K ad rw h f) : zm_Ct K M_X2_fault [.ref (ad 27)] h (fun r h' => r = some (.int (nI f)) ∧ h' = h) := by
  refine zm_meet (by decide) (Nat.le_of_ble_eq_true rfl) ?_
  intro E C Rt _
  exact B_X2_fault_0 C Rt (Nat.le_refl 0) (Nat.le_refl 0) (t_g0 S.1 (S.g3 ⟨rfl, rfl⟩))
theorem v_fault {f : Nat} (S : zS9 K ad rw h f) {F : Int32 → zm_H → Prop} (hF : F (nI f) h) : zm_rc h (ad 27) 2 ∧ zm_ci K M_X2_fault [.ref (ad 27)] h F := ⟨t_grc S.1, _, c_fault S, fun r h' q => by
  obtain ⟨rfl, rfl⟩ := q
  exact ⟨_, rfl, hF⟩⟩
theorem c_open (X : zX K ad false rw 0 h) (h5 : h (ad 5) = some (.inr (0, [.ref (ad 6), .int (nI 0)]))) : zm_Ct K M_X2_open [.ref (ad 27), .ref (ad 5)] h (poS9 K ad rw 0) := by
  refine zm_meet (by decide) (Nat.le_of_ble_eq_true rfl) ?_
  intro E C Rt _
  obtain ⟨j, at9, lim, flt, n, t, hj, j32, nj, hn, e28, ej, eid, -⟩ := X.scan
  have M := k_X7_open (K := K) (h := h) (s := ad 28) (ca := ad j) (b := ad 5) (a := ad 6) (at9 := at9) (lim := lim) (flt := flt) (sz := nI 0) h5 (X.ne (by decide) (by decide) (by decide))
  rw [eid] at M
  refine B_X2_open_0 C Rt (Nat.le_refl 0) (Nat.le_refl 0) (t_g0 X ⟨t_src X, _, M, fun r h' q => ?_⟩)
  obtain ⟨rfl, rfl⟩ := q
  exact ⟨rfl, rfl, X.set 28 (by decide) ⟨6, _, _, _, by decide, rfl⟩, zhS_s⟩
theorem f_read (X : zX K ad false false 0 h) (F : zF K ad h) {x y : Int32} : zm_Ct K M_X8_read [.ref (ad 0), .int x, .int y] h (poA (a_read x y)) := by
  refine zm_meet (by decide) (Nat.le_of_ble_eq_true rfl) ?_
  intro E C Rt _
  have ans : ∀ {z : Int32} {h9 : zm_H}, a_read x y = z → poA (a_read x y) (some (.int z)) h9 := fun {z} {h9} e => by
    show some (Value.int z) = some (Value.int (a_read x y))
    rw [e]
  refine B_X8_read_0 C Rt (Nat.le_refl 0) (Nat.le_refl 0) ⟨fun g => ans (by rw [a_read, if_pos g]), fun g0 => ⟨fun g1 => t_86 X ?_, fun g => ans (by rw [a_read, if_neg g0, if_neg g])⟩⟩
  obtain ⟨_, e10, c, hc, rfl⟩ := X.2 10 (by decide)
  replace e10 : h (ad (zRn9 false)) = some (.inr (5, [.ref (ad 11), .ref (ad 12), .int (nI c)])) := e10
  have pf10 : ∀ {F9 : zm_H → Prop}, F9 (zm_set h (ad (zRn9 false)) (.inr (5, [.ref (ad 11), .ref (ad 12), .int (nI 0)]))) → zm_pf h (ad (zRn9 false)) 5 2 (.int (nI 0)) F9 := fun {F9} hF => by
    simp only [zm_pf, e10, List.set_cons_zero, List.set_cons_succ, List.length_cons, List.length_nil, true_and]
    exact ⟨by decide, hF⟩
  refine pf10 ?_
  have X1 : zX K ad false false 0 (zm_set h (ad (zRn9 false)) (.inr (5, [.ref (ad 11), .ref (ad 12), .int (nI 0)]))) := X.set 10 (by decide) ⟨0, Nat.zero_le _, rfl⟩
  have h5 : zm_set h (ad (zRn9 false)) (.inr (5, [.ref (ad 11), .ref (ad 12), .int (nI 0)])) (ad 5) = some (.inr (0, [.ref (ad 6), .int (nI 0)])) := (zm_set_n (X.ne (by decide) (show zRn9 false < 32 by decide) (by decide))).trans F.2.1
  generalize zm_set h (ad (zRn9 false)) (.inr (5, [.ref (ad 11), .ref (ad 12), .int (nI 0)])) = h1 at X1 h5
  refine t_82 X1 (t_84 X1 ⟨t_grc X1, _, c_open X1 h5, fun r h2 q => ?_⟩)
  obtain ⟨rfl, S2⟩ := q
  refine ⟨rfl, ?_⟩
  have swap : ∀ {h : zm_H} (S : zS9 K ad false h 0) {F : zm_H → Prop}, (∀ h', zS9 K ad true h' 0 → F h') → zm_gR h (ad 0) 8 6 fun v10 => zm_gR h (ad 0) 8 5 fun v11 => zm_pf h (ad 0) 8 6 (.ref v11) fun h6 => zm_pf h6 (ad 0) 8 5 (.ref v10) F := by
    intro h S F hF
    have X := S.1
    refine t_86 X (t_85 X ?_)
    simp only [zm_pf, X.ob8, zm_set_s, zm_set_set, List.set_cons_zero, List.set_cons_succ, List.length_cons, List.length_nil, true_and]
    refine ⟨by decide, by decide, hF _ ⟨⟨X.1, fun k hk => ?_⟩, (zm_set_n (X.ne (by decide) (by decide) (by decide))).trans S.2⟩⟩
    by_cases hk0 : k = 0
    · subst hk0
      exact ⟨_, zm_set_s _ _ _, rfl⟩
    · obtain ⟨e, he, g⟩ := X.2 k hk
      exact ⟨e, (zm_set_n (X.ne hk (by decide) hk0)).trans he, g.rr hk0⟩
  have one : ∀ {h3 : zm_H}, zS9 K ad false h3 1 → a_read x y = nI 1 → zm_gR h3 (ad 0) 8 2 fun v6 => zm_rc h3 v6 2 ∧ zm_ci K M_X2_fault [.ref v6] h3 fun v7 h4 => (¬ v7 = 0 → zm_gR h4 (ad 0) 8 2 fun v8 => zm_rc h4 v8 2 ∧ zm_ci K M_X2_fault [.ref v8] h4 fun v9 h5 => poA (a_read x y) (some (.int v9)) h5) ∧ (v7 = 0 → zm_gR h4 (ad 0) 8 6 fun v10 => zm_gR h4 (ad 0) 8 5 fun v11 => zm_pf h4 (ad 0) 8 6 (.ref v11) fun h6 => zm_pf h6 (ad 0) 8 5 (.ref v10) fun h7 => zm_gR h7 (ad 0) 8 2 fun v12 => zm_rc h7 v12 2 ∧ zm_ci K M_X2_fault [.ref v12] h7 fun v13 h8 => poA (a_read x y) (some (.int v13)) h8) := fun S3 e => t_82 S3.1 (v_fault S3 ⟨fun _ => t_82 S3.1 (v_fault S3 (ans e)), fun z => absurd z (by decide)⟩)
  have call : ∀ (M : zm_M), a_read x y = nI 1 → zm_Ct K M [.ref (ad 27), .ref (ad (zRn9 false)), .int y] h2 (poS9 K ad false 1) → zm_gR h2 (ad 0) 8 2 fun v4 => zm_gR h2 (ad 0) 8 6 fun v5 => zm_rc h2 v4 2 ∧ zm_cv K M [.ref v4, .ref v5, .int y] h2 fun h3 => zm_gR h3 (ad 0) 8 2 fun v6 => zm_rc h3 v6 2 ∧ zm_ci K M_X2_fault [.ref v6] h3 fun v7 h4 => (¬ v7 = 0 → zm_gR h4 (ad 0) 8 2 fun v8 => zm_rc h4 v8 2 ∧ zm_ci K M_X2_fault [.ref v8] h4 fun v9 h5 => poA (a_read x y) (some (.int v9)) h5) ∧ (v7 = 0 → zm_gR h4 (ad 0) 8 6 fun v10 => zm_gR h4 (ad 0) 8 5 fun v11 => zm_pf h4 (ad 0) 8 6 (.ref v11) fun h6 => zm_pf h6 (ad 0) 8 5 (.ref v10) fun h7 => zm_gR h7 (ad 0) 8 2 fun v12 => zm_rc h7 v12 2 ∧ zm_ci K M_X2_fault [.ref v12] h7 fun v13 h8 => poA (a_read x y) (some (.int v13)) h8) := by
    intro M e hM
    refine t_82 S2.1 (t_86 S2.1 ⟨t_grc S2.1, _, hM, fun r h3 q => ?_⟩)
    obtain ⟨rfl, S3⟩ := q
    exact ⟨rfl, one S3 e⟩
  refine ⟨fun e => t_82 S2.1 (t_86 S2.1 ⟨t_grc S2.1, _, c_plain S2 (zRn_v false), fun r h3 q => ?_⟩), fun e => call _ (by rw [e]; exact ar1 g0 g1) (c_lengths S2), fun e => call _ (by rw [e]; exact ar2 g0 g1) (c_front S2), fun e => call _ (by rw [e]; exact ar3 g0 g1) (c_dictionary S2), fun n0 n1 n2 n3 => ans (by rw [a_read, if_neg g0, if_pos g1, if_neg n0, if_neg n1, if_neg n2, if_neg n3])⟩
  obtain ⟨rfl, q⟩ := q
  refine ⟨rfl, ?_⟩
  rcases q with ⟨gy, S3⟩ | ⟨gy, S3⟩
  · refine t_82 S3.1 (v_fault S3 ⟨fun z => absurd rfl z, fun _ => swap S3 fun h7 S7 => t_82 S7.1 (v_fault S7 (ans ?_))⟩)
    rw [a_read, if_neg g0, if_pos g1, if_pos e, if_pos gy]
  · refine one S3 ?_
    rw [a_read, if_neg g0, if_pos g1, if_pos e, if_neg gy]
end ZF3
