section ZMQ
variable {K : zm_K} {h : zm_H}
theorem k_X2_init {l0 : va_W} {b a1 a2 a3 : Nat} (hl0 : l0.length = 27) (M : zm_Mk h (l0 ++ [(b, .inr (2, [.null, .null, .null, .null, .null, .null]))])) : zm_Ct K M_X2_init [.ref b, .ref a1, .ref a2, .ref a3] h (fun r h' => r = none ∧ ∃ v w u1 u2, zm_Mk h' (l0 ++ [(b, .inr (2, [.ref v, .ref a1, .ref a2, .ref a3, .ref u1, .ref u2])), (v, .inr (7, [.ref w, .int 0, .int 0, .int 0])), (w, zB0 K 0), (u1, zI K 1000 (fun _ => 0)), (u2, zI K 1000 (fun _ => 0))])) := by
  refine zm_meet (by decide) (Nat.le_of_ble_eq_true rfl) ?_
  intro E C Rt hin
  obtain ⟨c0, c1, c2, c3, c4, c5, c6, c7, c8, c9, c10, c11, c12, c13, c14, c15, c16, c17, c18, c19, c20, c21, c22, c23, c24, c25, c26, rfl⟩ : ∃ c0 c1 c2 c3 c4 c5 c6 c7 c8 c9 c10 c11 c12 c13 c14 c15 c16 c17 c18 c19 c20 c21 c22 c23 c24 c25 c26, l0 = [c0, c1, c2, c3, c4, c5, c6, c7, c8, c9, c10, c11, c12, c13, c14, c15, c16, c17, c18, c19, c20, c21, c22, c23, c24, c25, c26] := by
    match l0, hl0 with
    | [c0, c1, c2, c3, c4, c5, c6, c7, c8, c9, c10, c11, c12, c13, c14, c15, c16, c17, c18, c19, c20, c21, c22, c23, c24, c25, c26], _ => exact ⟨_, _, _, _, _, _, _, _, _, _, _, _, _, _, _, _, _, _, _, _, _, _, _, _, _, _, _, rfl⟩
  refine B_X2_init_0 C Rt (hin rfl) (by omega) (by omega) fun v f => ⟨_, k_X7_init (i := 28) (M.new9 f) rfl, fun r h1 q => ?_⟩
  obtain ⟨rfl, w, M1⟩ := q
  refine ⟨rfl, M1.pf9 (i := 27) rfl (Nat.le_of_ble_eq_true rfl) rfl fun h2 M2 => ⟨by decide, by decide, by decide, fun u1 f1 => M2.mk9 f1 (i := 27) rfl (Nat.le_of_ble_eq_true rfl) rfl fun h3 M3 => ⟨by decide, by decide, by decide, fun u2 f2 => M3.mk9 f2 (i := 27) rfl (Nat.le_of_ble_eq_true rfl) rfl fun h4 M4 => ?_⟩⟩⟩
  exact M4.pf9 (i := 27) rfl (Nat.le_of_ble_eq_true rfl) rfl fun h5 M5 => M5.pf9 (i := 27) rfl (Nat.le_of_ble_eq_true rfl) rfl fun h6 M6 => M6.pf9 (i := 27) rfl (Nat.le_of_ble_eq_true rfl) rfl fun h7 M7 => ⟨rfl, v, w, u1, u2, M7⟩
/-- what is sure of a fresh object -/
def zF (K : zm_K) (ad : Nat → Nat) (h : zm_H) : Prop := h (ad 1) = some (.inr (0, [.ref (ad 2), .int (nI 0)])) ∧ h (ad 5) = some (.inr (0, [.ref (ad 6), .int (nI 0)])) ∧ h (ad 7) = some (.inr (5, [.ref (ad 8), .ref (ad 9), .int (nI 0)])) ∧ h (ad 9) = some (zI K 1001 (fun _ => nI 0))
theorem k_X8_init9 {a0 : Nat} (M : zm_Mk h [(a0, .inr (8, [.null, .null, .null, .null, .null, .null, .null]))]) : zm_Ct K M_X8_init [.ref a0] h (fun r h' => r = none ∧ ∃ ad, ad 0 = a0 ∧ zX K ad false false 0 h' ∧ zF K ad h') := by
  refine zm_meet (by decide) (Nat.le_of_ble_eq_true rfl) ?_
  intro E C Rt hin
  refine B_X8_init_0 C Rt (hin rfl) (by omega) (by omega) ?_
  intro v1 fv1
  refine ⟨_, k_X0_init (l := [(a0, .inr (8, [.null, .null, .null, .null, .null, .null, .null])), (v1, .inr (0, [.null, .int 0]))]) (i := 1) (n := 24000) (M.new9 fv1) rfl (by decide), fun r gv1 q => ?_⟩
  obtain ⟨rfl, v2, Nv1⟩ := q
  replace Nv1 : zm_Mk gv1 [(a0, .inr (8, [.null, .null, .null, .null, .null, .null, .null])), (v1, .inr (0, [.ref v2, .int 0])), (v2, zB0 K 24000)] := Nv1
  refine ⟨rfl, Nv1.pf9 (i := 0) (l' := [(a0, .inr (8, [.ref v1, .null, .null, .null, .null, .null, .null])), (v1, .inr (0, [.ref v2, .int 0])), (v2, zB0 K 24000)]) rfl (Nat.le_of_ble_eq_true rfl) rfl fun kv1 Ov1 => ?_⟩
  intro v3 fv3
  refine ⟨_, k_X0_init (l := [(a0, .inr (8, [.ref v1, .null, .null, .null, .null, .null, .null])), (v1, .inr (0, [.ref v2, .int 0])), (v2, zB0 K 24000), (v3, .inr (0, [.null, .int 0]))]) (i := 3) (n := 24000) (Ov1.new9 fv3) rfl (by decide), fun r gv3 q => ?_⟩
  obtain ⟨rfl, v4, Nv3⟩ := q
  replace Nv3 : zm_Mk gv3 [(a0, .inr (8, [.ref v1, .null, .null, .null, .null, .null, .null])), (v1, .inr (0, [.ref v2, .int 0])), (v2, zB0 K 24000), (v3, .inr (0, [.ref v4, .int 0])), (v4, zB0 K 24000)] := Nv3
  refine ⟨rfl, Nv3.pf9 (i := 0) (l' := [(a0, .inr (8, [.ref v1, .null, .null, .ref v3, .null, .null, .null])), (v1, .inr (0, [.ref v2, .int 0])), (v2, zB0 K 24000), (v3, .inr (0, [.ref v4, .int 0])), (v4, zB0 K 24000)]) rfl (Nat.le_of_ble_eq_true rfl) rfl fun kv3 Ov3 => ?_⟩
  intro v5 fv5
  refine ⟨_, k_X0_init (l := [(a0, .inr (8, [.ref v1, .null, .null, .ref v3, .null, .null, .null])), (v1, .inr (0, [.ref v2, .int 0])), (v2, zB0 K 24000), (v3, .inr (0, [.ref v4, .int 0])), (v4, zB0 K 24000), (v5, .inr (0, [.null, .int 0]))]) (i := 5) (n := 24000) (Ov3.new9 fv5) rfl (by decide), fun r gv5 q => ?_⟩
  obtain ⟨rfl, v6, Nv5⟩ := q
  replace Nv5 : zm_Mk gv5 [(a0, .inr (8, [.ref v1, .null, .null, .ref v3, .null, .null, .null])), (v1, .inr (0, [.ref v2, .int 0])), (v2, zB0 K 24000), (v3, .inr (0, [.ref v4, .int 0])), (v4, zB0 K 24000), (v5, .inr (0, [.ref v6, .int 0])), (v6, zB0 K 24000)] := Nv5
  refine ⟨rfl, Nv5.pf9 (i := 0) (l' := [(a0, .inr (8, [.ref v1, .null, .null, .ref v3, .ref v5, .null, .null])), (v1, .inr (0, [.ref v2, .int 0])), (v2, zB0 K 24000), (v3, .inr (0, [.ref v4, .int 0])), (v4, zB0 K 24000), (v5, .inr (0, [.ref v6, .int 0])), (v6, zB0 K 24000)]) rfl (Nat.le_of_ble_eq_true rfl) rfl fun kv5 Ov5 => ?_⟩
  intro v7 fv7
  refine ⟨_, k_X5_init (l := [(a0, .inr (8, [.ref v1, .null, .null, .ref v3, .ref v5, .null, .null])), (v1, .inr (0, [.ref v2, .int 0])), (v2, zB0 K 24000), (v3, .inr (0, [.ref v4, .int 0])), (v4, zB0 K 24000), (v5, .inr (0, [.ref v6, .int 0])), (v6, zB0 K 24000), (v7, .inr (5, [.null, .null, .int 0]))]) (i := 7) (Ov5.new9 fv7) rfl, fun r gv7 q => ?_⟩
  obtain ⟨rfl, v8, v9, Nv7⟩ := q
  replace Nv7 : zm_Mk gv7 [(a0, .inr (8, [.ref v1, .null, .null, .ref v3, .ref v5, .null, .null])), (v1, .inr (0, [.ref v2, .int 0])), (v2, zB0 K 24000), (v3, .inr (0, [.ref v4, .int 0])), (v4, zB0 K 24000), (v5, .inr (0, [.ref v6, .int 0])), (v6, zB0 K 24000), (v7, .inr (5, [.ref v8, .ref v9, .int 0])), (v8, zB0 K 20000), (v9, zI K 1001 (fun _ => 0))] := Nv7
  refine ⟨rfl, Nv7.pf9 (i := 0) (l' := [(a0, .inr (8, [.ref v1, .null, .null, .ref v3, .ref v5, .ref v7, .null])), (v1, .inr (0, [.ref v2, .int 0])), (v2, zB0 K 24000), (v3, .inr (0, [.ref v4, .int 0])), (v4, zB0 K 24000), (v5, .inr (0, [.ref v6, .int 0])), (v6, zB0 K 24000), (v7, .inr (5, [.ref v8, .ref v9, .int 0])), (v8, zB0 K 20000), (v9, zI K 1001 (fun _ => 0))]) rfl (Nat.le_of_ble_eq_true rfl) rfl fun kv7 Ov7 => ?_⟩
  intro v10 fv10
  refine ⟨_, k_X5_init (l := [(a0, .inr (8, [.ref v1, .null, .null, .ref v3, .ref v5, .ref v7, .null])), (v1, .inr (0, [.ref v2, .int 0])), (v2, zB0 K 24000), (v3, .inr (0, [.ref v4, .int 0])), (v4, zB0 K 24000), (v5, .inr (0, [.ref v6, .int 0])), (v6, zB0 K 24000), (v7, .inr (5, [.ref v8, .ref v9, .int 0])), (v8, zB0 K 20000), (v9, zI K 1001 (fun _ => 0)), (v10, .inr (5, [.null, .null, .int 0]))]) (i := 10) (Ov7.new9 fv10) rfl, fun r gv10 q => ?_⟩
  obtain ⟨rfl, v11, v12, Nv10⟩ := q
  replace Nv10 : zm_Mk gv10 [(a0, .inr (8, [.ref v1, .null, .null, .ref v3, .ref v5, .ref v7, .null])), (v1, .inr (0, [.ref v2, .int 0])), (v2, zB0 K 24000), (v3, .inr (0, [.ref v4, .int 0])), (v4, zB0 K 24000), (v5, .inr (0, [.ref v6, .int 0])), (v6, zB0 K 24000), (v7, .inr (5, [.ref v8, .ref v9, .int 0])), (v8, zB0 K 20000), (v9, zI K 1001 (fun _ => 0)), (v10, .inr (5, [.ref v11, .ref v12, .int 0])), (v11, zB0 K 20000), (v12, zI K 1001 (fun _ => 0))] := Nv10
  refine ⟨rfl, Nv10.pf9 (i := 0) (l' := [(a0, .inr (8, [.ref v1, .null, .null, .ref v3, .ref v5, .ref v7, .ref v10])), (v1, .inr (0, [.ref v2, .int 0])), (v2, zB0 K 24000), (v3, .inr (0, [.ref v4, .int 0])), (v4, zB0 K 24000), (v5, .inr (0, [.ref v6, .int 0])), (v6, zB0 K 24000), (v7, .inr (5, [.ref v8, .ref v9, .int 0])), (v8, zB0 K 20000), (v9, zI K 1001 (fun _ => 0)), (v10, .inr (5, [.ref v11, .ref v12, .int 0])), (v11, zB0 K 20000), (v12, zI K 1001 (fun _ => 0))]) rfl (Nat.le_of_ble_eq_true rfl) rfl fun kv10 Ov10 => ?_⟩
  intro v13 fv13
  refine ⟨_, k_X1_init (l := [(a0, .inr (8, [.ref v1, .null, .null, .ref v3, .ref v5, .ref v7, .ref v10])), (v1, .inr (0, [.ref v2, .int 0])), (v2, zB0 K 24000), (v3, .inr (0, [.ref v4, .int 0])), (v4, zB0 K 24000), (v5, .inr (0, [.ref v6, .int 0])), (v6, zB0 K 24000), (v7, .inr (5, [.ref v8, .ref v9, .int 0])), (v8, zB0 K 20000), (v9, zI K 1001 (fun _ => 0)), (v10, .inr (5, [.ref v11, .ref v12, .int 0])), (v11, zB0 K 20000), (v12, zI K 1001 (fun _ => 0)), (v13, .inr (1, [.null, .null, .int 0]))]) (i := 13) (Ov10.new9 fv13) rfl, fun r gv13 q => ?_⟩
  obtain ⟨rfl, v14, v15, Nv13⟩ := q
  replace Nv13 : zm_Mk gv13 [(a0, .inr (8, [.ref v1, .null, .null, .ref v3, .ref v5, .ref v7, .ref v10])), (v1, .inr (0, [.ref v2, .int 0])), (v2, zB0 K 24000), (v3, .inr (0, [.ref v4, .int 0])), (v4, zB0 K 24000), (v5, .inr (0, [.ref v6, .int 0])), (v6, zB0 K 24000), (v7, .inr (5, [.ref v8, .ref v9, .int 0])), (v8, zB0 K 20000), (v9, zI K 1001 (fun _ => 0)), (v10, .inr (5, [.ref v11, .ref v12, .int 0])), (v11, zB0 K 20000), (v12, zI K 1001 (fun _ => 0)), (v13, .inr (1, [.ref v14, .ref v15, .int 0])), (v14, zL K 2000 (fun _ => 0)), (v15, zI K 4 (fun _ => 0))] := Nv13
  refine ⟨rfl, ?_⟩
  intro v16 fv16
  refine ⟨_, k_X1_init (l := [(a0, .inr (8, [.ref v1, .null, .null, .ref v3, .ref v5, .ref v7, .ref v10])), (v1, .inr (0, [.ref v2, .int 0])), (v2, zB0 K 24000), (v3, .inr (0, [.ref v4, .int 0])), (v4, zB0 K 24000), (v5, .inr (0, [.ref v6, .int 0])), (v6, zB0 K 24000), (v7, .inr (5, [.ref v8, .ref v9, .int 0])), (v8, zB0 K 20000), (v9, zI K 1001 (fun _ => 0)), (v10, .inr (5, [.ref v11, .ref v12, .int 0])), (v11, zB0 K 20000), (v12, zI K 1001 (fun _ => 0)), (v13, .inr (1, [.ref v14, .ref v15, .int 0])), (v14, zL K 2000 (fun _ => 0)), (v15, zI K 4 (fun _ => 0)), (v16, .inr (1, [.null, .null, .int 0]))]) (i := 16) (Nv13.new9 fv16) rfl, fun r gv16 q => ?_⟩
  obtain ⟨rfl, v17, v18, Nv16⟩ := q
  replace Nv16 : zm_Mk gv16 [(a0, .inr (8, [.ref v1, .null, .null, .ref v3, .ref v5, .ref v7, .ref v10])), (v1, .inr (0, [.ref v2, .int 0])), (v2, zB0 K 24000), (v3, .inr (0, [.ref v4, .int 0])), (v4, zB0 K 24000), (v5, .inr (0, [.ref v6, .int 0])), (v6, zB0 K 24000), (v7, .inr (5, [.ref v8, .ref v9, .int 0])), (v8, zB0 K 20000), (v9, zI K 1001 (fun _ => 0)), (v10, .inr (5, [.ref v11, .ref v12, .int 0])), (v11, zB0 K 20000), (v12, zI K 1001 (fun _ => 0)), (v13, .inr (1, [.ref v14, .ref v15, .int 0])), (v14, zL K 2000 (fun _ => 0)), (v15, zI K 4 (fun _ => 0)), (v16, .inr (1, [.ref v17, .ref v18, .int 0])), (v17, zL K 2000 (fun _ => 0)), (v18, zI K 4 (fun _ => 0))] := Nv16
  refine ⟨rfl, ?_⟩
  intro v19 f19
  refine ⟨_, k_X6_init (l := [(a0, .inr (8, [.ref v1, .null, .null, .ref v3, .ref v5, .ref v7, .ref v10])), (v1, .inr (0, [.ref v2, .int 0])), (v2, zB0 K 24000), (v3, .inr (0, [.ref v4, .int 0])), (v4, zB0 K 24000), (v5, .inr (0, [.ref v6, .int 0])), (v6, zB0 K 24000), (v7, .inr (5, [.ref v8, .ref v9, .int 0])), (v8, zB0 K 20000), (v9, zI K 1001 (fun _ => 0)), (v10, .inr (5, [.ref v11, .ref v12, .int 0])), (v11, zB0 K 20000), (v12, zI K 1001 (fun _ => 0)), (v13, .inr (1, [.ref v14, .ref v15, .int 0])), (v14, zL K 2000 (fun _ => 0)), (v15, zI K 4 (fun _ => 0)), (v16, .inr (1, [.ref v17, .ref v18, .int 0])), (v17, zL K 2000 (fun _ => 0)), (v18, zI K 4 (fun _ => 0)), (v19, .inr (6, [.null, .int 0]))]) (i := 19) (Nv16.new9 f19) rfl, fun r g19 q => ?_⟩
  obtain ⟨rfl, v20, N19⟩ := q
  replace N19 : zm_Mk g19 [(a0, .inr (8, [.ref v1, .null, .null, .ref v3, .ref v5, .ref v7, .ref v10])), (v1, .inr (0, [.ref v2, .int 0])), (v2, zB0 K 24000), (v3, .inr (0, [.ref v4, .int 0])), (v4, zB0 K 24000), (v5, .inr (0, [.ref v6, .int 0])), (v6, zB0 K 24000), (v7, .inr (5, [.ref v8, .ref v9, .int 0])), (v8, zB0 K 20000), (v9, zI K 1001 (fun _ => 0)), (v10, .inr (5, [.ref v11, .ref v12, .int 0])), (v11, zB0 K 20000), (v12, zI K 1001 (fun _ => 0)), (v13, .inr (1, [.ref v14, .ref v15, .int 0])), (v14, zL K 2000 (fun _ => 0)), (v15, zI K 4 (fun _ => 0)), (v16, .inr (1, [.ref v17, .ref v18, .int 0])), (v17, zL K 2000 (fun _ => 0)), (v18, zI K 4 (fun _ => 0)), (v19, .inr (6, [.ref v20, .int 0])), (v20, zL K 1000 (fun _ => 0))] := N19
  refine ⟨rfl, ?_⟩
  intro v21 f21
  refine ⟨_, k_X3_init (l0 := [(a0, .inr (8, [.ref v1, .null, .null, .ref v3, .ref v5, .ref v7, .ref v10])), (v1, .inr (0, [.ref v2, .int 0])), (v2, zB0 K 24000), (v3, .inr (0, [.ref v4, .int 0])), (v4, zB0 K 24000), (v5, .inr (0, [.ref v6, .int 0])), (v6, zB0 K 24000), (v7, .inr (5, [.ref v8, .ref v9, .int 0])), (v8, zB0 K 20000), (v9, zI K 1001 (fun _ => 0)), (v10, .inr (5, [.ref v11, .ref v12, .int 0])), (v11, zB0 K 20000), (v12, zI K 1001 (fun _ => 0)), (v13, .inr (1, [.ref v14, .ref v15, .int 0])), (v14, zL K 2000 (fun _ => 0)), (v15, zI K 4 (fun _ => 0)), (v16, .inr (1, [.ref v17, .ref v18, .int 0])), (v17, zL K 2000 (fun _ => 0)), (v18, zI K 4 (fun _ => 0)), (v19, .inr (6, [.ref v20, .int 0])), (v20, zL K 1000 (fun _ => 0))]) rfl (N19.new9 f21), fun r g21 q => ?_⟩
  obtain ⟨rfl, v22, v23, v24, v25, v26, N21⟩ := q
  replace N21 : zm_Mk g21 [(a0, .inr (8, [.ref v1, .null, .null, .ref v3, .ref v5, .ref v7, .ref v10])), (v1, .inr (0, [.ref v2, .int 0])), (v2, zB0 K 24000), (v3, .inr (0, [.ref v4, .int 0])), (v4, zB0 K 24000), (v5, .inr (0, [.ref v6, .int 0])), (v6, zB0 K 24000), (v7, .inr (5, [.ref v8, .ref v9, .int 0])), (v8, zB0 K 20000), (v9, zI K 1001 (fun _ => 0)), (v10, .inr (5, [.ref v11, .ref v12, .int 0])), (v11, zB0 K 20000), (v12, zI K 1001 (fun _ => 0)), (v13, .inr (1, [.ref v14, .ref v15, .int 0])), (v14, zL K 2000 (fun _ => 0)), (v15, zI K 4 (fun _ => 0)), (v16, .inr (1, [.ref v17, .ref v18, .int 0])), (v17, zL K 2000 (fun _ => 0)), (v18, zI K 4 (fun _ => 0)), (v19, .inr (6, [.ref v20, .int 0])), (v20, zL K 1000 (fun _ => 0)), (v21, .inr (3, [.ref v13, .ref v16, .ref v19, .ref v22, .ref v25])), (v22, .inr (4, [.ref v23, .ref v24, .int 0])), (v23, zI K 2048 (fun _ => 0)), (v24, zI K 1000 (fun _ => 0)), (v25, .inr (0, [.ref v26, .int 0])), (v26, zB0 K 2000)] := N21
  refine ⟨rfl, N21.pf9 (i := 0) (l' := [(a0, .inr (8, [.ref v1, .ref v21, .null, .ref v3, .ref v5, .ref v7, .ref v10])), (v1, .inr (0, [.ref v2, .int 0])), (v2, zB0 K 24000), (v3, .inr (0, [.ref v4, .int 0])), (v4, zB0 K 24000), (v5, .inr (0, [.ref v6, .int 0])), (v6, zB0 K 24000), (v7, .inr (5, [.ref v8, .ref v9, .int 0])), (v8, zB0 K 20000), (v9, zI K 1001 (fun _ => 0)), (v10, .inr (5, [.ref v11, .ref v12, .int 0])), (v11, zB0 K 20000), (v12, zI K 1001 (fun _ => 0)), (v13, .inr (1, [.ref v14, .ref v15, .int 0])), (v14, zL K 2000 (fun _ => 0)), (v15, zI K 4 (fun _ => 0)), (v16, .inr (1, [.ref v17, .ref v18, .int 0])), (v17, zL K 2000 (fun _ => 0)), (v18, zI K 4 (fun _ => 0)), (v19, .inr (6, [.ref v20, .int 0])), (v20, zL K 1000 (fun _ => 0)), (v21, .inr (3, [.ref v13, .ref v16, .ref v19, .ref v22, .ref v25])), (v22, .inr (4, [.ref v23, .ref v24, .int 0])), (v23, zI K 2048 (fun _ => 0)), (v24, zI K 1000 (fun _ => 0)), (v25, .inr (0, [.ref v26, .int 0])), (v26, zB0 K 2000)]) rfl (Nat.le_of_ble_eq_true rfl) rfl fun k21 O21 => ?_⟩
  intro v27 f27
  refine ⟨_, k_X2_init (l0 := [(a0, .inr (8, [.ref v1, .ref v21, .null, .ref v3, .ref v5, .ref v7, .ref v10])), (v1, .inr (0, [.ref v2, .int 0])), (v2, zB0 K 24000), (v3, .inr (0, [.ref v4, .int 0])), (v4, zB0 K 24000), (v5, .inr (0, [.ref v6, .int 0])), (v6, zB0 K 24000), (v7, .inr (5, [.ref v8, .ref v9, .int 0])), (v8, zB0 K 20000), (v9, zI K 1001 (fun _ => 0)), (v10, .inr (5, [.ref v11, .ref v12, .int 0])), (v11, zB0 K 20000), (v12, zI K 1001 (fun _ => 0)), (v13, .inr (1, [.ref v14, .ref v15, .int 0])), (v14, zL K 2000 (fun _ => 0)), (v15, zI K 4 (fun _ => 0)), (v16, .inr (1, [.ref v17, .ref v18, .int 0])), (v17, zL K 2000 (fun _ => 0)), (v18, zI K 4 (fun _ => 0)), (v19, .inr (6, [.ref v20, .int 0])), (v20, zL K 1000 (fun _ => 0)), (v21, .inr (3, [.ref v13, .ref v16, .ref v19, .ref v22, .ref v25])), (v22, .inr (4, [.ref v23, .ref v24, .int 0])), (v23, zI K 2048 (fun _ => 0)), (v24, zI K 1000 (fun _ => 0)), (v25, .inr (0, [.ref v26, .int 0])), (v26, zB0 K 2000)]) rfl (O21.new9 f27), fun r g27 q => ?_⟩
  obtain ⟨rfl, v28, v29, v30, v31, N27⟩ := q
  replace N27 : zm_Mk g27 [(a0, .inr (8, [.ref v1, .ref v21, .null, .ref v3, .ref v5, .ref v7, .ref v10])), (v1, .inr (0, [.ref v2, .int 0])), (v2, zB0 K 24000), (v3, .inr (0, [.ref v4, .int 0])), (v4, zB0 K 24000), (v5, .inr (0, [.ref v6, .int 0])), (v6, zB0 K 24000), (v7, .inr (5, [.ref v8, .ref v9, .int 0])), (v8, zB0 K 20000), (v9, zI K 1001 (fun _ => 0)), (v10, .inr (5, [.ref v11, .ref v12, .int 0])), (v11, zB0 K 20000), (v12, zI K 1001 (fun _ => 0)), (v13, .inr (1, [.ref v14, .ref v15, .int 0])), (v14, zL K 2000 (fun _ => 0)), (v15, zI K 4 (fun _ => 0)), (v16, .inr (1, [.ref v17, .ref v18, .int 0])), (v17, zL K 2000 (fun _ => 0)), (v18, zI K 4 (fun _ => 0)), (v19, .inr (6, [.ref v20, .int 0])), (v20, zL K 1000 (fun _ => 0)), (v21, .inr (3, [.ref v13, .ref v16, .ref v19, .ref v22, .ref v25])), (v22, .inr (4, [.ref v23, .ref v24, .int 0])), (v23, zI K 2048 (fun _ => 0)), (v24, zI K 1000 (fun _ => 0)), (v25, .inr (0, [.ref v26, .int 0])), (v26, zB0 K 2000), (v27, .inr (2, [.ref v28, .ref v13, .ref v16, .ref v19, .ref v30, .ref v31])), (v28, .inr (7, [.ref v29, .int 0, .int 0, .int 0])), (v29, zB0 K 0), (v30, zI K 1000 (fun _ => 0)), (v31, zI K 1000 (fun _ => 0))] := N27
  refine ⟨rfl, N27.pf9 (i := 0) (l' := [(a0, .inr (8, [.ref v1, .ref v21, .ref v27, .ref v3, .ref v5, .ref v7, .ref v10])), (v1, .inr (0, [.ref v2, .int 0])), (v2, zB0 K 24000), (v3, .inr (0, [.ref v4, .int 0])), (v4, zB0 K 24000), (v5, .inr (0, [.ref v6, .int 0])), (v6, zB0 K 24000), (v7, .inr (5, [.ref v8, .ref v9, .int 0])), (v8, zB0 K 20000), (v9, zI K 1001 (fun _ => 0)), (v10, .inr (5, [.ref v11, .ref v12, .int 0])), (v11, zB0 K 20000), (v12, zI K 1001 (fun _ => 0)), (v13, .inr (1, [.ref v14, .ref v15, .int 0])), (v14, zL K 2000 (fun _ => 0)), (v15, zI K 4 (fun _ => 0)), (v16, .inr (1, [.ref v17, .ref v18, .int 0])), (v17, zL K 2000 (fun _ => 0)), (v18, zI K 4 (fun _ => 0)), (v19, .inr (6, [.ref v20, .int 0])), (v20, zL K 1000 (fun _ => 0)), (v21, .inr (3, [.ref v13, .ref v16, .ref v19, .ref v22, .ref v25])), (v22, .inr (4, [.ref v23, .ref v24, .int 0])), (v23, zI K 2048 (fun _ => 0)), (v24, zI K 1000 (fun _ => 0)), (v25, .inr (0, [.ref v26, .int 0])), (v26, zB0 K 2000), (v27, .inr (2, [.ref v28, .ref v13, .ref v16, .ref v19, .ref v30, .ref v31])), (v28, .inr (7, [.ref v29, .int 0, .int 0, .int 0])), (v29, zB0 K 0), (v30, zI K 1000 (fun _ => 0)), (v31, zI K 1000 (fun _ => 0))]) rfl (Nat.le_of_ble_eq_true rfl) rfl fun k27 O27 => ?_⟩
  have hl2 : ([a0, v1, v2, v3, v4, v5, v6, v7, v8, v9, v10, v11, v12, v13, v14, v15, v16, v17, v18, v19, v20, v21, v22, v23, v24, v25, v26, v27, v28, v29, v30, v31] : List Nat).Nodup := O27.1
  have h2 := List.pairwise_iff_getElem.mp hl2
  refine ⟨rfl, fun k => ([a0, v1, v2, v3, v4, v5, v6, v7, v8, v9, v10, v11, v12, v13, v14, v15, v16, v17, v18, v19, v20, v21, v22, v23, v24, v25, v26, v27, v28, v29, v30, v31] : List Nat).getD k 0, rfl, ⟨fun p q li lj e => ?_, fun k hk => ?_⟩, O27.at9 (k := 1) rfl, O27.at9 (k := 5) rfl, O27.at9 (k := 7) rfl, O27.at9 (k := 9) rfl⟩
  · dsimp only at e
    rw [List.getD_eq_getElem?_getD, List.getD_eq_getElem?_getD, List.getElem?_eq_getElem (show p < ([a0, v1, v2, v3, v4, v5, v6, v7, v8, v9, v10, v11, v12, v13, v14, v15, v16, v17, v18, v19, v20, v21, v22, v23, v24, v25, v26, v27, v28, v29, v30, v31] : List Nat).length from li), List.getElem?_eq_getElem (show q < ([a0, v1, v2, v3, v4, v5, v6, v7, v8, v9, v10, v11, v12, v13, v14, v15, v16, v17, v18, v19, v20, v21, v22, v23, v24, v25, v26, v27, v28, v29, v30, v31] : List Nat).length from lj), Option.getD_some, Option.getD_some] at e
    rcases Nat.lt_trichotomy p q with z | z | z
    · exact absurd e (h2 p q li lj z)
    · exact z
    · exact absurd e.symm (h2 q p lj li z)
  · match k, hk with
    | 0, _ => exact ⟨_, O27.at9 (k := 0) rfl, rfl⟩
    | 1, _ => exact ⟨_, O27.at9 (k := 1) rfl, ⟨0, by decide, rfl⟩⟩
    | 2, _ => exact ⟨_, O27.at9 (k := 2) rfl, ⟨fun _ => 0, rfl⟩⟩
    | 3, _ => exact ⟨_, O27.at9 (k := 3) rfl, ⟨0, by decide, fun _ => rfl, rfl⟩⟩
    | 4, _ => exact ⟨_, O27.at9 (k := 4) rfl, ⟨fun _ => 0, rfl⟩⟩
    | 5, _ => exact ⟨_, O27.at9 (k := 5) rfl, ⟨0, by decide, fun z => absurd z (by decide), rfl⟩⟩
    | 6, _ => exact ⟨_, O27.at9 (k := 6) rfl, ⟨fun _ => 0, rfl⟩⟩
    | 7, _ => exact ⟨_, O27.at9 (k := 7) rfl, ⟨0, by decide, rfl⟩⟩
    | 8, _ => exact ⟨_, O27.at9 (k := 8) rfl, ⟨fun _ => 0, rfl⟩⟩
    | 9, _ => exact ⟨_, O27.at9 (k := 9) rfl, ⟨fun _ => 0, fun _ => Nat.zero_le _, rfl⟩⟩
    | 10, _ => exact ⟨_, O27.at9 (k := 10) rfl, ⟨0, by decide, rfl⟩⟩
    | 11, _ => exact ⟨_, O27.at9 (k := 11) rfl, ⟨fun _ => 0, rfl⟩⟩
    | 12, _ => exact ⟨_, O27.at9 (k := 12) rfl, ⟨fun _ => 0, fun _ => Nat.zero_le _, rfl⟩⟩
    | 13, _ => exact ⟨_, O27.at9 (k := 13) rfl, ⟨0, by decide, rfl⟩⟩
    | 14, _ => exact ⟨_, O27.at9 (k := 14) rfl, ⟨fun _ => 0, rfl⟩⟩
    | 15, _ => exact ⟨_, O27.at9 (k := 15) rfl, ⟨fun _ => 0, rfl⟩⟩
    | 16, _ => exact ⟨_, O27.at9 (k := 16) rfl, ⟨0, by decide, rfl⟩⟩
    | 17, _ => exact ⟨_, O27.at9 (k := 17) rfl, ⟨fun _ => 0, rfl⟩⟩
    | 18, _ => exact ⟨_, O27.at9 (k := 18) rfl, ⟨fun _ => 0, rfl⟩⟩
    | 19, _ => exact ⟨_, O27.at9 (k := 19) rfl, ⟨0, by decide, rfl⟩⟩
    | 20, _ => exact ⟨_, O27.at9 (k := 20) rfl, ⟨fun _ => 0, rfl⟩⟩
    | 21, _ => exact ⟨_, O27.at9 (k := 21) rfl, rfl⟩
    | 22, _ => exact ⟨_, O27.at9 (k := 22) rfl, ⟨0, by decide, rfl⟩⟩
    | 23, _ => exact ⟨_, O27.at9 (k := 23) rfl, ⟨fun _ => 0, fun _ => Nat.zero_le _, rfl⟩⟩
    | 24, _ => exact ⟨_, O27.at9 (k := 24) rfl, ⟨fun _ => 0, fun _ => Nat.zero_le _, rfl⟩⟩
    | 25, _ => exact ⟨_, O27.at9 (k := 25) rfl, ⟨0, by decide, rfl⟩⟩
    | 26, _ => exact ⟨_, O27.at9 (k := 26) rfl, ⟨fun _ => 0, rfl⟩⟩
    | 27, _ => exact ⟨_, O27.at9 (k := 27) rfl, rfl⟩
    | 28, _ => exact ⟨_, O27.at9 (k := 28) rfl, ⟨29, 0, 0, 0, by decide, rfl⟩⟩
    | 29, _ => exact ⟨_, O27.at9 (k := 29) rfl, ⟨fun _ => 0, rfl⟩⟩
    | 30, _ => exact ⟨_, O27.at9 (k := 30) rfl, ⟨fun _ => 0, rfl⟩⟩
    | 31, _ => exact ⟨_, O27.at9 (k := 31) rfl, ⟨fun _ => 0, rfl⟩⟩
    | k + 32, hk => omega
theorem zm_Ct.weak {M : zm_M} {as : List Value} {P Q : zm_Po} (c : zm_Ct K M as h P) (hPQ : ∀ r h', P r h' → Q r h') : zm_Ct K M as h Q := by
  intro sz p e hadm hc hk s m args below hfr hS hP hK
  obtain ⟨n, o, g1, g2, g3, ⟨g4, gF⟩, Ls, g5, g6⟩ := c sz p e hadm hc hk s m args below hfr hS hP hK
  obtain ⟨r, h', er, hp, w⟩ := g4
  exact ⟨n, o, g1, g2, g3, ⟨⟨r, h', er, hPQ r h' hp, w⟩, gF⟩, Ls, g5, g6⟩
theorem k_X8_init {a0 : Nat} (M : zm_Mk h [(a0, .inr (8, [.null, .null, .null, .null, .null, .null, .null]))]) : zm_Ct K M_X8_init [.ref a0] h (fun r h' => r = none ∧ ∃ ad, ad 0 = a0 ∧ zX K ad false false 0 h') := (k_X8_init9 M).weak (fun _ _ q => by
  obtain ⟨q1, ad, q2, q3, _⟩ := q
  exact ⟨q1, ad, q2, q3⟩)
end ZMQ
