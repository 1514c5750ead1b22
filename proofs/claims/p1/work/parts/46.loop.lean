/-! the first call: class and reference side by side -/
section LWF
variable {K : zm_K} {ad ad' : Nat → Nat} {h : zm_H}
def lwF (K : zm_K) (ad ad' : Nat → Nat) (h : zm_H) : Prop := ∃ hX hM : zm_H, zm_dj hX hM ∧ h = zm_un hX hM ∧ zX K ad false false 0 hX ∧ zF K ad hX ∧ zM K ad' s00 hM
def lwG (K : zm_K) (ad' : Nat → Nat) (h : zm_H) : Prop := ∃ hX hM : zm_H, zm_dj hX hM ∧ h = zm_un hX hM ∧ zM K ad' s00 hM
theorem lwF.ci (J : lwF K ad ad' h) {M : zm_M} {as : List Value} {a : Int32} (hM : ∀ hX, zX K ad false false 0 hX → zF K ad hX → zm_Ct K M as hX (poA a)) {F : Int32 → zm_H → Prop} (kk : ∀ h', lwG K ad' h' → F a h') : zm_rc h (ad 0) 8 ∧ zm_ci K M as h F := by
  obtain ⟨hX, hM9, dj, rfl, X, Z, Y⟩ := J
  refine ⟨by simp only [zm_rc, zm_un_l X.ob8], _, zm_frame (hM hX X Z) dj, fun r h' q => ?_⟩
  obtain ⟨h1', q1, q2, rfl⟩ := q
  exact ⟨a, q1, kk _ ⟨h1', hM9, q2, rfl, Y⟩⟩
theorem lwG.ci (J : lwG K ad' h) {M : zm_M} {as : List Value} {a : Int32} (hM : ∀ hM, zM K ad' s00 hM → zm_Ct K M as hM (poA a)) {F : Int32 → zm_H → Prop} (kk : ∀ h', F a h') : zm_rc h (ad' 0) 9 ∧ zm_ci K M as h F := by
  obtain ⟨hX, hM9, dj, rfl, Y⟩ := J
  rw [zm_un_c dj]
  refine ⟨by simp only [zm_rc, zm_un_l Y.ob], _, zm_frame (hM hM9 Y) dj.sy, fun r h' q => ?_⟩
  obtain ⟨h1', q1, q2, rfl⟩ := q
  exact ⟨a, q1, kk _⟩
theorem lwF.cv (J : lwF K ad ad' h) {M : zm_M} {as : List Value} {P : zm_Po} (hM : ∀ hX, zX K ad false false 0 hX → zm_Ct K M as hX P) (hP : ∀ r h', P r h' → r = none) {F : zm_H → Prop} (kk : ∀ h', lwG K ad' h' → F h') : zm_rc h (ad 0) 8 ∧ zm_cv K M as h F := by
  obtain ⟨hX, hM9, dj, rfl, X, Z, Y⟩ := J
  refine ⟨by simp only [zm_rc, zm_un_l X.ob8], _, zm_frame (hM hX X) dj, fun r h' q => ?_⟩
  obtain ⟨h1', q1, q2, rfl⟩ := q
  exact ⟨hP _ _ q1, kk _ ⟨h1', hM9, q2, rfl, Y⟩⟩
theorem lwG.cv (J : lwG K ad' h) {M : zm_M} {as : List Value} {P : zm_Po} (hM : ∀ hM, zM K ad' s00 hM → zm_Ct K M as hM P) (hP : ∀ r h', P r h' → r = none) {F : zm_H → Prop} (kk : ∀ h', F h') : zm_rc h (ad' 0) 9 ∧ zm_cv K M as h F := by
  obtain ⟨hX, hM9, dj, rfl, Y⟩ := J
  rw [zm_un_c dj]
  refine ⟨by simp only [zm_rc, zm_un_l Y.ob], _, zm_frame (hM hM9 Y) dj.sy, fun r h' q => ?_⟩
  obtain ⟨h1', q1, q2, rfl⟩ := q
  exact ⟨hP _ _ q1, kk _⟩
def a_end (v : Int32) : Int32 := if ¬ v < 0 ∧ v ≤ nI 0 then nI 1 else nI 0
theorem f_feed (X : zX K ad false false 0 h) {x1 x2 x3 x4 x5 : Int32} : zm_Ct K M_X8_feed [.ref (ad 0), .int x1, .int x2, .int x3, .int x4, .int x5] h (poA (nI 1)) := (k_X8_feed X).weak (fun r h' q => by
  rcases q with ⟨_, b, _⟩ | ⟨a, _, _⟩
  · exact b
  · exact absurd (by decide) a)
theorem m9_feed (X : zM K ad s00 h) {x1 x2 x3 x4 x5 : Int32} : zm_Ct K M_X9_feed [.ref (ad 0), .int x1, .int x2, .int x3, .int x4, .int x5] h (poA (nI 1)) := (r_feed X s00_I).weak (fun r h' q => by
  obtain ⟨s', _, q⟩ := q
  rcases q with ⟨_, b, _⟩ | ⟨a, _, _⟩
  · exact b
  · exact absurd (by decide) a)
theorem f_end (X : zX K ad false false 0 h) {x : Int32} : zm_Ct K M_X8_end [.ref (ad 0), .int x] h (poA (a_end x)) := (k_X8_end X).weak (fun r h' q => by
  show r = some (.int (a_end x))
  rcases q with ⟨a, b, _⟩ | ⟨a, b, _⟩
  · rw [b, a_end, if_pos a]
  · rw [b, a_end, if_neg a])
theorem m9_end (X : zM K ad s00 h) {x : Int32} : zm_Ct K M_X9_end [.ref (ad 0), .int x] h (poA (a_end x)) := (r_end X s00_I).weak (fun r h' q => by
  show r = some (.int (a_end x))
  obtain ⟨s', _, q⟩ := q
  rcases q with ⟨a, b, _⟩ | ⟨a, b, _⟩
  · rw [b, a_end, if_pos a]
  · rw [b, a_end, if_neg a])
theorem f_turn (X : zX K ad false false 0 h) : zm_Ct K M_X8_turn [.ref (ad 0)] h (poA (nI 1)) := (k_X8_turn X).weak (fun _ _ q => q.1)
theorem m9_turn (X : zM K ad s00 h) : zm_Ct K M_X9_turn [.ref (ad 0)] h (poA (nI 1)) := (r_turn X s00_I).weak (fun _ _ q => q.1)
end LWF
theorem lw_new9 {K : zm_K} {F : Nat → Nat → zm_H → Prop} (kk : ∀ ad ad' h, lwF K ad ad' h → F (ad 0) (ad' 0) h) : ∀ v1, (fun _ => none : zm_H) v1 = none → zm_cv K M_X8_init [.ref v1] (zm_set (fun _ => none) v1 (.inr (8, [.null, .null, .null, .null, .null, .null, .null]))) fun h1 => ∀ v2, h1 v2 = none → zm_cv K M_X9_init [.ref v2] (zm_set h1 v2 (.inr (9, mD0))) fun h2 => F v1 v2 h2 := by
  intro v1 _
  refine ⟨_, k_X8_init9 (zm_one v1 _), fun r h1 q => ?_⟩
  obtain ⟨rfl, ad, e0, X, Z⟩ := q
  refine ⟨rfl, fun v2 hv => ?_⟩
  obtain ⟨e1, dj⟩ := zm_one_un (.inr (9, mD0)) hv
  rw [e1]
  refine ⟨_, zm_frame (r_init (zm_one v2 _)) dj, fun r h2 q => ?_⟩
  obtain ⟨h1', ⟨rfl, ad', e2, Y⟩, dj2, rfl⟩ := q
  refine ⟨rfl, ?_⟩
  rw [← e0, ← e2]
  exact kk ad ad' _ ⟨h1, h1', dj2.sy, zm_un_c dj2, X, Z, Y⟩
set_option maxRecDepth 20000 in
theorem lw_first {E : zm_E} {K : zm_K} {nc ns : Nat} (C : zm_Cx E K cL_law RL 9 196 600000 7302250 4) {b n : Nat} {xs : Nat → Int32} (X9 : zm_sX E b n xs) (Z9 : zm_lZ E b) (hn : n ≤ 6) (hnc : nc ≤ 600000) (hns : ns ≤ 7302250) {ad ad' : Nat → Nat} {h : zm_H} (J : lwF K ad ad' h) : zm_Go E nc ns 18 [(0, .ref b), (1, .ref (ad 0)), (2, .ref (ad' 0)), (3, .int (nI 0))] [] h := by
  refine B_L_law_18 C X9 Z9 hnc hns ⟨fun _ => rfl, fun g => ?_⟩
  have g1 : nI 0 ≤ nI n - nI 6 := Int32.not_lt.mp g
  have g2 := (zle_sub (by omega) (by omega) (by decide)).mp g1
  have hb : n < 2 ^ 31 := by omega
  have nx : ∀ h', zm_Go E nc ns 373 [(0, .ref b), (1, .ref (ad 0)), (2, .ref (ad' 0)), (3, .int (nI 0))] [] h' := fun h' => B_L_law_373 C X9 Z9 (B_L_law_18 C X9 Z9 hnc hns ⟨fun _ => rfl, fun g3 => by
    exfalso
    rw [nI_add] at g3
    have g4 := (zle_sub (by omega) (by omega) (by decide)).mp (Int32.not_lt.mp g3)
    omega⟩)
  have i1 : vp_in (nI 0 + nI 1) n := lw_in (by omega) hb
  have i2 : vp_in (nI 0 + nI 2) n := lw_in (by omega) hb
  have i3 : vp_in (nI 0 + nI 3) n := lw_in (by omega) hb
  have i4 : vp_in (nI 0 + nI 4) n := lw_in (by omega) hb
  have i5 : vp_in (nI 0 + nI 5) n := lw_in (by omega) hb
  refine ⟨vp_in_nI (by omega) hb, fun _ => ?_, fun _ => ?_, fun _ => ?_, fun _ => ?_, fun _ => ?_, fun _ => ?_, fun _ => ?_, fun _ => ?_, fun _ => ?_, fun _ => ?_, fun _ => ?_, fun _ _ _ _ _ _ _ _ _ _ _ => nx h⟩
  · exact B_L_law_92 C X9 Z9 hnc hns ⟨i1, i2, i3, i4, i5, J.ci (fun hX X Z => f_feed X) fun h1 J1 => ⟨i1, i2, i3, i4, i5, J1.ci (fun hM Y => m9_feed Y) fun h2 => ⟨fun _ => nx h2, fun z => absurd rfl z⟩⟩⟩
  · exact B_L_law_155 C X9 Z9 hnc hns ⟨i1, J.ci (fun hX X Z => f_end X) fun h1 J1 => ⟨i1, J1.ci (fun hM Y => m9_end Y) fun h2 => ⟨fun _ => nx h2, fun z => absurd rfl z⟩⟩⟩
  · exact B_L_law_178 C X9 Z9 hnc hns ⟨i1, J.ci (fun hX X Z => f_add X Z) fun h1 J1 => ⟨i1, J1.ci (fun hM Y => m9_add Y) fun h2 => ⟨fun _ => nx h2, fun z => absurd rfl z⟩⟩⟩
  · exact B_L_law_201 C X9 Z9 hnc hns (J.cv (fun hX X => k_X8_clear X) (fun _ _ q => q.1) fun h1 J1 => J1.cv (fun hM Y => r_clear Y s00_I) (fun _ _ q => q.1) fun h2 => nx h2)
  · exact B_L_law_212 C X9 Z9 hnc hns ⟨i1, J.ci (fun hX X Z => f_write X Z) fun h1 J1 => ⟨i1, J1.ci (fun hM Y => m9_write Y) fun h2 => ⟨fun _ => nx h2, fun z => absurd rfl z⟩⟩⟩
  · exact B_L_law_235 C X9 Z9 hnc hns ⟨i1, i2, J.ci (fun hX X Z => f_read X Z) fun h1 J1 => ⟨i1, i2, J1.ci (fun hM Y => m9_read Y) fun h2 => ⟨fun _ => nx h2, fun z => absurd rfl z⟩⟩⟩
  · exact B_L_law_268 C X9 Z9 hnc hns (J.ci (fun hX X Z => f_turn X) fun h1 J1 => J1.ci (fun hM Y => m9_turn Y) fun h2 => ⟨fun _ => nx h2, fun z => absurd rfl z⟩)
  · exact B_L_law_281 C X9 Z9 hnc hns (J.ci (fun hX X Z => f_size X Z) fun h1 J1 => J1.ci (fun hM Y => m9_size Y) fun h2 => ⟨fun _ => nx h2, fun z => absurd rfl z⟩)
  · exact B_L_law_294 C X9 Z9 hnc hns ⟨i1, J.ci (fun hX X Z => f_length X Z) fun h1 J1 => ⟨i1, J1.ci (fun hM Y => m9_length Y) fun h2 => ⟨fun _ => nx h2, fun z => absurd rfl z⟩⟩⟩
  · exact B_L_law_317 C X9 Z9 hnc hns ⟨i1, i2, J.ci (fun hX X Z => f_byteOf X Z) fun h1 J1 => ⟨i1, i2, J1.ci (fun hM Y => m9_byteOf Y) fun h2 => ⟨fun _ => nx h2, fun z => absurd rfl z⟩⟩⟩
  · exact B_L_law_350 C X9 Z9 hnc hns ⟨i1, J.ci (fun hX X Z => f_output X Z) fun h1 J1 => ⟨i1, J1.ci (fun hM Y => m9_output Y) fun h2 => ⟨fun _ => nx h2, fun z => absurd rfl z⟩⟩⟩
