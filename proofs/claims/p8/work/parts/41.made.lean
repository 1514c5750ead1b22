section ZMM
variable {K : zm_K} {h : zm_H} {l l' : va_W}
theorem zget {α : Type} {l : List α} {i : Nat} {x y c : α} (h : l[i]? = some x) : ((l ++ [c]).set i y)[i]? = some y := List.getElem?_set_self (by rw [List.length_append]; have := (List.getElem?_eq_some_iff.mp h).1; omega)
theorem zgetn {α : Type} {l : List α} {c : α} : (l ++ [c])[l.length]? = some c := by
  rw [List.getElem?_append_right (Nat.le_refl _), Nat.sub_self]
  rfl
theorem zm_Mk.pf9 (M : zm_Mk h l) {i a0 ci k : Nat} {fs : List Value} {v : Value} (h0 : l[i]? = some (a0, .inr (ci, fs))) (hk : k < fs.length) (hl : l.set i (a0, .inr (ci, fs.set k v)) = l') {Kc : zm_H → Prop} (kk : ∀ h', zm_Mk h' l' → Kc h') : zm_pf h a0 ci k v Kc := by
  simp only [zm_pf, M.at9 h0, true_and]
  refine ⟨hk, kk _ ?_⟩
  rw [← hl]
  exact M.up9 h0
def zB0 (K : zm_K) (n : Nat) : va_E := .inl (K.2.2 0, n, .inl (fun _ => 0))
theorem zB0_eq (n : Nat) : zB0 K n = zB K n (fun _ => 0) := rfl
theorem k_X0_init (M : zm_Mk h l) {i b n : Nat} (h0 : l[i]? = some (b, .inr (0, [.null, .int 0]))) (hn : n ≤ 24000) : zm_Ct K M_X0_init [.ref b, .int (nI n)] h (fun r h' => r = none ∧ ∃ v, zm_Mk h' ((l ++ [(v, zB0 K n)]).set i (b, .inr (0, [.ref v, .int 0])))) := by
  refine zm_meet (by decide) (Nat.le_of_ble_eq_true rfl) ?_
  intro E C Rt hin
  have e : (if nI n < nI 0 then nI 0 else nI n) = nI n := if_neg (nI_nlt (by omega) (by omega))
  refine B_X0_init_0 C Rt (hin rfl) (by omega) (by rw [e, nI_clamp (by omega)]; omega) ?_
  rw [e, nI_clamp (by omega)]
  exact ⟨nI_pos (by omega), by show n * 1 ≤ _; omega, by omega, fun v f => M.mk9 f h0 (Nat.le_of_ble_eq_true rfl) rfl fun h' M' => ⟨rfl, v, M'⟩⟩
theorem k_X1_init (M : zm_Mk h l) {i b : Nat} (h0 : l[i]? = some (b, .inr (1, [.null, .null, .int 0]))) : zm_Ct K M_X1_init [.ref b] h (fun r h' => r = none ∧ ∃ v w, zm_Mk h' ((((l ++ [(v, zL K 2000 (fun _ => 0))]).set i (b, .inr (1, [.ref v, .null, .int 0]))) ++ [(w, zI K 4 (fun _ => 0))]).set i (b, .inr (1, [.ref v, .ref w, .int 0])))) := by
  refine zm_meet (by decide) (Nat.le_of_ble_eq_true rfl) ?_
  intro E C Rt hin
  exact B_X1_init_0 C Rt (hin rfl) (by omega) (by omega) ⟨by decide, by decide, by decide, fun v f => M.mk9 f h0 (Nat.le_of_ble_eq_true rfl) rfl fun h1 M1 => ⟨by decide, by decide, by decide, fun w f2 => M1.mk9 f2 (zget h0) (Nat.le_of_ble_eq_true rfl) rfl fun h2 M2 => ⟨rfl, v, w, M2⟩⟩⟩
theorem k_X4_init (M : zm_Mk h l) {i b : Nat} (h0 : l[i]? = some (b, .inr (4, [.null, .null, .int 0]))) : zm_Ct K M_X4_init [.ref b] h (fun r h' => r = none ∧ ∃ v w, zm_Mk h' ((((l ++ [(v, zI K 2048 (fun _ => 0))]).set i (b, .inr (4, [.ref v, .null, .int 0]))) ++ [(w, zI K 1000 (fun _ => 0))]).set i (b, .inr (4, [.ref v, .ref w, .int 0])))) := by
  refine zm_meet (by decide) (Nat.le_of_ble_eq_true rfl) ?_
  intro E C Rt hin
  exact B_X4_init_0 C Rt (hin rfl) (by omega) (by omega) ⟨by decide, by decide, by decide, fun v f => M.mk9 f h0 (Nat.le_of_ble_eq_true rfl) rfl fun h1 M1 => ⟨by decide, by decide, by decide, fun w f2 => M1.mk9 f2 (zget h0) (Nat.le_of_ble_eq_true rfl) rfl fun h2 M2 => ⟨rfl, v, w, M2⟩⟩⟩
theorem k_X5_init (M : zm_Mk h l) {i b : Nat} (h0 : l[i]? = some (b, .inr (5, [.null, .null, .int 0]))) : zm_Ct K M_X5_init [.ref b] h (fun r h' => r = none ∧ ∃ v w, zm_Mk h' ((((l ++ [(v, zB0 K 20000)]).set i (b, .inr (5, [.ref v, .null, .int 0]))) ++ [(w, zI K 1001 (fun _ => 0))]).set i (b, .inr (5, [.ref v, .ref w, .int 0])))) := by
  refine zm_meet (by decide) (Nat.le_of_ble_eq_true rfl) ?_
  intro E C Rt hin
  exact B_X5_init_0 C Rt (hin rfl) (by omega) (by omega) ⟨by decide, by decide, by decide, fun v f => M.mk9 f h0 (Nat.le_of_ble_eq_true rfl) rfl fun h1 M1 => ⟨by decide, by decide, by decide, fun w f2 => M1.mk9 f2 (zget h0) (Nat.le_of_ble_eq_true rfl) rfl fun h2 M2 => ⟨rfl, v, w, M2⟩⟩⟩
theorem k_X6_init (M : zm_Mk h l) {i b : Nat} (h0 : l[i]? = some (b, .inr (6, [.null, .int 0]))) : zm_Ct K M_X6_init [.ref b] h (fun r h' => r = none ∧ ∃ v, zm_Mk h' ((l ++ [(v, zL K 1000 (fun _ => 0))]).set i (b, .inr (6, [.ref v, .int 0])))) := by
  refine zm_meet (by decide) (Nat.le_of_ble_eq_true rfl) ?_
  intro E C Rt hin
  exact B_X6_init_0 C Rt (hin rfl) (by omega) (by omega) ⟨by decide, by decide, by decide, fun v f => M.mk9 f h0 (Nat.le_of_ble_eq_true rfl) rfl fun h1 M1 => ⟨rfl, v, M1⟩⟩
theorem k_X7_init (M : zm_Mk h l) {i b : Nat} (h0 : l[i]? = some (b, .inr (7, [.null, .int 0, .int 0, .int 0]))) : zm_Ct K M_X7_init [.ref b] h (fun r h' => r = none ∧ ∃ v, zm_Mk h' ((l ++ [(v, zB0 K 0)]).set i (b, .inr (7, [.ref v, .int 0, .int 0, .int 0])))) := by
  refine zm_meet (by decide) (Nat.le_of_ble_eq_true rfl) ?_
  intro E C Rt hin
  exact B_X7_init_0 C Rt (by omega) (by omega) ⟨by decide, by decide, by decide, fun v f => M.mk9 f h0 (Nat.le_of_ble_eq_true rfl) rfl fun h1 M1 => ⟨rfl, v, M1⟩⟩
/-- the writer's constructor, in a list of 21 cells, of which it is the last -/
theorem k_X3_init {l0 : va_W} {b a1 a2 a3 : Nat} (hl0 : l0.length = 21) (M : zm_Mk h (l0 ++ [(b, .inr (3, [.null, .null, .null, .null, .null]))])) : zm_Ct K M_X3_init [.ref b, .ref a1, .ref a2, .ref a3] h (fun r h' => r = none ∧ ∃ v w1 w2 u w3, zm_Mk h' (l0 ++ [(b, .inr (3, [.ref a1, .ref a2, .ref a3, .ref v, .ref u])), (v, .inr (4, [.ref w1, .ref w2, .int 0])), (w1, zI K 2048 (fun _ => 0)), (w2, zI K 1000 (fun _ => 0)), (u, .inr (0, [.ref w3, .int 0])), (w3, zB0 K 2000)])) := by
  refine zm_meet (by decide) (Nat.le_of_ble_eq_true rfl) ?_
  intro E C Rt hin
  obtain ⟨c0, c1, c2, c3, c4, c5, c6, c7, c8, c9, c10, c11, c12, c13, c14, c15, c16, c17, c18, c19, c20, rfl⟩ : ∃ c0 c1 c2 c3 c4 c5 c6 c7 c8 c9 c10 c11 c12 c13 c14 c15 c16 c17 c18 c19 c20, l0 = [c0, c1, c2, c3, c4, c5, c6, c7, c8, c9, c10, c11, c12, c13, c14, c15, c16, c17, c18, c19, c20] := by
    match l0, hl0 with
    | [c0, c1, c2, c3, c4, c5, c6, c7, c8, c9, c10, c11, c12, c13, c14, c15, c16, c17, c18, c19, c20], _ => exact ⟨_, _, _, _, _, _, _, _, _, _, _, _, _, _, _, _, _, _, _, _, _, rfl⟩
  refine B_X3_init_0 C Rt (hin rfl) (by omega) (by omega) fun v f => ⟨_, k_X4_init (i := 22) (M.new9 f) rfl, fun r h1 q => ?_⟩
  obtain ⟨rfl, w1, w2, M1⟩ := q
  refine ⟨rfl, M1.pf9 (i := 21) rfl (Nat.le_of_ble_eq_true rfl) rfl fun h2 M2 u f2 => ⟨_, k_X0_init (i := 25) (n := 2000) (M2.new9 f2) rfl (by decide), fun r h3 q => ?_⟩⟩
  obtain ⟨rfl, w3, M3⟩ := q
  exact ⟨rfl, M3.pf9 (i := 21) rfl (Nat.le_of_ble_eq_true rfl) rfl fun h4 M4 => M4.pf9 (i := 21) rfl (Nat.le_of_ble_eq_true rfl) rfl fun h5 M5 => M5.pf9 (i := 21) rfl (Nat.le_of_ble_eq_true rfl) rfl fun h6 M6 => M6.pf9 (i := 21) rfl (Nat.le_of_ble_eq_true rfl) rfl fun h7 M7 => ⟨rfl, v, w1, w2, u, w3, M7⟩⟩
end ZMM
