/-! cells that are made one behind the other -/
def zm_Mk (h : zm_H) (l : va_W) : Prop := zm_nd l ∧ ∀ p ∈ l, h p.1 = some p.2
section ZMK
variable {h : zm_H} {l l' : va_W}
theorem zm_Mk.at9 (M : zm_Mk h l) {k a : Nat} {e : va_E} (hk : l[k]? = some (a, e)) : h a = some e := M.2 (a, e) (List.mem_of_getElem? hk)
theorem zm_Mk.new9 (M : zm_Mk h l) {v : Nat} {e : va_E} (hv : h v = none) : zm_Mk (zm_set h v e) (l ++ [(v, e)]) := by
  have ne : ∀ p ∈ l, p.1 ≠ v := fun p hp q => by
    have := M.2 p hp
    rw [q, hv] at this
    cases this
  refine ⟨?_, fun p hp => ?_⟩
  · unfold zm_nd
    rw [List.map_append]
    refine List.nodup_append.mpr ⟨M.1, List.nodup_cons.mpr ⟨List.not_mem_nil, List.nodup_nil⟩, fun a ha b hb q => ?_⟩
    obtain ⟨p, hp, rfl⟩ := List.mem_map.mp ha
    have hb2 : b = v := by
      have := List.mem_singleton.mp hb
      exact this
    exact ne p hp (q.trans hb2)
  · rcases List.mem_append.mp hp with z | z
    · rw [zm_set_n (ne p z)]
      exact M.2 p z
    · rw [List.mem_singleton.mp z]
      exact zm_set_s _ _ _
theorem zm_Mk.up9 (M : zm_Mk h l) {k a : Nat} {e0 e : va_E} (hk : l[k]? = some (a, e0)) : zm_Mk (zm_set h a e) (l.set k (a, e)) := by
  have hl := (List.getElem?_eq_some_iff.mp hk).1
  have D := M.1.to (A := fun _ => True) (fun _ _ => trivial)
  refine ⟨?_, fun p hp => ?_⟩
  · have e1 : (l.set k (a, e)).map Prod.fst = l.map Prod.fst := by
      rw [List.map_set]
      refine List.ext_getElem? (fun i => ?_)
      by_cases q : k = i
      · subst q
        rw [List.getElem?_set_self (by rw [List.length_map]; exact hl), List.getElem?_map, hk]
        rfl
      · rw [List.getElem?_set_ne q]
    unfold zm_nd
    rw [e1]
    exact M.1
  · obtain ⟨i, hi⟩ := List.mem_iff_getElem?.mp hp
    by_cases q : k = i
    · subst q
      rw [List.getElem?_set_self hl] at hi
      cases hi
      exact zm_set_s _ _ _
    · rw [List.getElem?_set_ne q] at hi
      have hne : p.1 ≠ a := fun w => q (D.1 k i (a, e0) p hk hi w.symm)
      rw [zm_set_n hne]
      exact M.2 p (List.mem_of_getElem? hi)
/-- a cell is made and put into a field -/
theorem zm_Mk.mk9 (M : zm_Mk h l) {v : Nat} {e : va_E} (hv : h v = none) {i a0 ci k : Nat} {fs : List Value} (h0 : l[i]? = some (a0, .inr (ci, fs))) (hk : k < fs.length) (hl : (l ++ [(v, e)]).set i (a0, .inr (ci, fs.set k (.ref v))) = l') {Kc : zm_H → Prop} (kk : ∀ h', zm_Mk h' l' → Kc h') : zm_pf (zm_set h v e) a0 ci k (.ref v) Kc := by
  have M1 := M.new9 (e := e) hv
  have h1 : (l ++ [(v, e)])[i]? = some (a0, .inr (ci, fs)) := by
    rw [List.getElem?_append_left (List.getElem?_eq_some_iff.mp h0).1]
    exact h0
  simp only [zm_pf, M1.at9 h1, true_and]
  refine ⟨hk, kk _ ?_⟩
  rw [← hl]
  exact M1.up9 h1
/-- apart, by places -/
theorem zm_Mk.inj9 (M : zm_Mk h l) {i j : Nat} {p q : Nat × va_E} (hi : l[i]? = some p) (hj : l[j]? = some q) (e : p.1 = q.1) : i = j := (M.1.to (A := fun _ => True) (fun _ _ => trivial)).1 i j p q hi hj e
end ZMK
def mD0 : List Value := [.int 0, .null, .null, .null, .null, .null, .null, .int 0, .int 0, .int 0, .null, .null, .null, .int 0, .int 0, .int 0, .int 0, .int 0, .null, .int 0, .null, .null, .null]
def mPl : List Nat := [0, 1, 2, 3, 4, 5, 6, 10, 11, 12, 18, 20, 21, 22]
/-- the place of a field's cell in the order of making -/
def mOf (k : Nat) : Nat := match k with
  | 10 => 7
  | 11 => 8
  | 12 => 9
  | 18 => 10
  | 20 => 11
  | 21 => 12
  | 22 => 13
  | k => k
theorem mOf_in : ∀ i ∈ 0 :: 18 :: mIx, mOf i < 14 := by decide
theorem mOf_inj : ∀ i ∈ 0 :: 18 :: mIx, ∀ j ∈ 0 :: 18 :: mIx, mOf i = mOf j → i = j := by decide
def s00 : mS := ⟨fun _ => 0, fun _ _ => 0, fun _ => 0⟩
theorem s00_I : mI 0 s00 := by
  have b : mB (fun _ => 0) := fun _ => ⟨0, by decide, rfl⟩
  exact ⟨rfl, by decide, Nat.zero_le _, Nat.zero_le _, Nat.zero_le _, Nat.zero_le _, b, b, b, ⟨fun _ => 0, Nat.zero_le _, fun _ => rfl, fun _ => Nat.zero_le _, fun k hk => absurd (show k < 0 from hk) (by omega)⟩, fun _ => 0, fun _ => rfl, fun _ => Nat.zero_le _⟩
theorem r_init {K : zm_K} {h : zm_H} {a0 : Nat} (M : zm_Mk h [(a0, .inr (9, mD0))]) : zm_Ct K M_X9_init [.ref a0] h (fun r h' => r = none ∧ ∃ ad, ad 0 = a0 ∧ zM K ad s00 h') := by
  refine zm_meet (by decide) (Nat.le_of_ble_eq_true rfl) ?_
  intro E C Rt hin
  refine B_X9_init_0 C Rt (hin rfl) (by omega) (by omega) ?_
  refine ⟨by decide, by decide, by decide, fun v1 f1 => M.mk9 f1 (i := 0) (l' := [(a0, .inr (9, [.int 0, .ref v1, .null, .null, .null, .null, .null, .int 0, .int 0, .int 0, .null, .null, .null, .int 0, .int 0, .int 0, .int 0, .int 0, .null, .int 0, .null, .null, .null])), (v1, zI K 1001 (fun _ => 0))]) rfl (Nat.le_of_ble_eq_true rfl) rfl fun h1 M1 => ?_⟩
  refine ⟨by decide, by decide, by decide, fun v2 f2 => M1.mk9 f2 (i := 0) (l' := [(a0, .inr (9, [.int 0, .ref v1, .ref v2, .null, .null, .null, .null, .int 0, .int 0, .int 0, .null, .null, .null, .int 0, .int 0, .int 0, .int 0, .int 0, .null, .int 0, .null, .null, .null])), (v1, zI K 1001 (fun _ => 0)), (v2, zI K 1001 (fun _ => 0))]) rfl (Nat.le_of_ble_eq_true rfl) rfl fun h2 M2 => ?_⟩
  refine ⟨by decide, by decide, by decide, fun v3 f3 => M2.mk9 f3 (i := 0) (l' := [(a0, .inr (9, [.int 0, .ref v1, .ref v2, .ref v3, .null, .null, .null, .int 0, .int 0, .int 0, .null, .null, .null, .int 0, .int 0, .int 0, .int 0, .int 0, .null, .int 0, .null, .null, .null])), (v1, zI K 1001 (fun _ => 0)), (v2, zI K 1001 (fun _ => 0)), (v3, zI K 1001 (fun _ => 0))]) rfl (Nat.le_of_ble_eq_true rfl) rfl fun h3 M3 => ?_⟩
  refine ⟨by decide, by decide, by decide, fun v4 f4 => M3.mk9 f4 (i := 0) (l' := [(a0, .inr (9, [.int 0, .ref v1, .ref v2, .ref v3, .ref v4, .null, .null, .int 0, .int 0, .int 0, .null, .null, .null, .int 0, .int 0, .int 0, .int 0, .int 0, .null, .int 0, .null, .null, .null])), (v1, zI K 1001 (fun _ => 0)), (v2, zI K 1001 (fun _ => 0)), (v3, zI K 1001 (fun _ => 0)), (v4, zI K 20000 (fun _ => 0))]) rfl (Nat.le_of_ble_eq_true rfl) rfl fun h4 M4 => ?_⟩
  refine ⟨by decide, by decide, by decide, fun v5 f5 => M4.mk9 f5 (i := 0) (l' := [(a0, .inr (9, [.int 0, .ref v1, .ref v2, .ref v3, .ref v4, .ref v5, .null, .int 0, .int 0, .int 0, .null, .null, .null, .int 0, .int 0, .int 0, .int 0, .int 0, .null, .int 0, .null, .null, .null])), (v1, zI K 1001 (fun _ => 0)), (v2, zI K 1001 (fun _ => 0)), (v3, zI K 1001 (fun _ => 0)), (v4, zI K 20000 (fun _ => 0)), (v5, zI K 20000 (fun _ => 0))]) rfl (Nat.le_of_ble_eq_true rfl) rfl fun h5 M5 => ?_⟩
  refine ⟨by decide, by decide, by decide, fun v6 f6 => M5.mk9 f6 (i := 0) (l' := [(a0, .inr (9, [.int 0, .ref v1, .ref v2, .ref v3, .ref v4, .ref v5, .ref v6, .int 0, .int 0, .int 0, .null, .null, .null, .int 0, .int 0, .int 0, .int 0, .int 0, .null, .int 0, .null, .null, .null])), (v1, zI K 1001 (fun _ => 0)), (v2, zI K 1001 (fun _ => 0)), (v3, zI K 1001 (fun _ => 0)), (v4, zI K 20000 (fun _ => 0)), (v5, zI K 20000 (fun _ => 0)), (v6, zI K 20000 (fun _ => 0))]) rfl (Nat.le_of_ble_eq_true rfl) rfl fun h6 M6 => ?_⟩
  refine ⟨by decide, by decide, by decide, fun v7 f7 => M6.mk9 f7 (i := 0) (l' := [(a0, .inr (9, [.int 0, .ref v1, .ref v2, .ref v3, .ref v4, .ref v5, .ref v6, .int 0, .int 0, .int 0, .ref v7, .null, .null, .int 0, .int 0, .int 0, .int 0, .int 0, .null, .int 0, .null, .null, .null])), (v1, zI K 1001 (fun _ => 0)), (v2, zI K 1001 (fun _ => 0)), (v3, zI K 1001 (fun _ => 0)), (v4, zI K 20000 (fun _ => 0)), (v5, zI K 20000 (fun _ => 0)), (v6, zI K 20000 (fun _ => 0)), (v7, zI K 24000 (fun _ => 0))]) rfl (Nat.le_of_ble_eq_true rfl) rfl fun h7 M7 => ?_⟩
  refine ⟨by decide, by decide, by decide, fun v8 f8 => M7.mk9 f8 (i := 0) (l' := [(a0, .inr (9, [.int 0, .ref v1, .ref v2, .ref v3, .ref v4, .ref v5, .ref v6, .int 0, .int 0, .int 0, .ref v7, .ref v8, .null, .int 0, .int 0, .int 0, .int 0, .int 0, .null, .int 0, .null, .null, .null])), (v1, zI K 1001 (fun _ => 0)), (v2, zI K 1001 (fun _ => 0)), (v3, zI K 1001 (fun _ => 0)), (v4, zI K 20000 (fun _ => 0)), (v5, zI K 20000 (fun _ => 0)), (v6, zI K 20000 (fun _ => 0)), (v7, zI K 24000 (fun _ => 0)), (v8, zI K 24000 (fun _ => 0))]) rfl (Nat.le_of_ble_eq_true rfl) rfl fun h8 M8 => ?_⟩
  refine ⟨by decide, by decide, by decide, fun v9 f9 => M8.mk9 f9 (i := 0) (l' := [(a0, .inr (9, [.int 0, .ref v1, .ref v2, .ref v3, .ref v4, .ref v5, .ref v6, .int 0, .int 0, .int 0, .ref v7, .ref v8, .ref v9, .int 0, .int 0, .int 0, .int 0, .int 0, .null, .int 0, .null, .null, .null])), (v1, zI K 1001 (fun _ => 0)), (v2, zI K 1001 (fun _ => 0)), (v3, zI K 1001 (fun _ => 0)), (v4, zI K 20000 (fun _ => 0)), (v5, zI K 20000 (fun _ => 0)), (v6, zI K 20000 (fun _ => 0)), (v7, zI K 24000 (fun _ => 0)), (v8, zI K 24000 (fun _ => 0)), (v9, zI K 60000 (fun _ => 0))]) rfl (Nat.le_of_ble_eq_true rfl) rfl fun h9 M9 => ?_⟩
  refine ⟨by decide, by decide, by decide, fun v10 f10 => M9.mk9 f10 (i := 0) (l' := [(a0, .inr (9, [.int 0, .ref v1, .ref v2, .ref v3, .ref v4, .ref v5, .ref v6, .int 0, .int 0, .int 0, .ref v7, .ref v8, .ref v9, .int 0, .int 0, .int 0, .int 0, .int 0, .ref v10, .int 0, .null, .null, .null])), (v1, zI K 1001 (fun _ => 0)), (v2, zI K 1001 (fun _ => 0)), (v3, zI K 1001 (fun _ => 0)), (v4, zI K 20000 (fun _ => 0)), (v5, zI K 20000 (fun _ => 0)), (v6, zI K 20000 (fun _ => 0)), (v7, zI K 24000 (fun _ => 0)), (v8, zI K 24000 (fun _ => 0)), (v9, zI K 60000 (fun _ => 0)), (v10, zL K 2000 (fun _ => 0))]) rfl (Nat.le_of_ble_eq_true rfl) rfl fun h10 M10 => ?_⟩
  refine ⟨by decide, by decide, by decide, fun v11 f11 => M10.mk9 f11 (i := 0) (l' := [(a0, .inr (9, [.int 0, .ref v1, .ref v2, .ref v3, .ref v4, .ref v5, .ref v6, .int 0, .int 0, .int 0, .ref v7, .ref v8, .ref v9, .int 0, .int 0, .int 0, .int 0, .int 0, .ref v10, .int 0, .ref v11, .null, .null])), (v1, zI K 1001 (fun _ => 0)), (v2, zI K 1001 (fun _ => 0)), (v3, zI K 1001 (fun _ => 0)), (v4, zI K 20000 (fun _ => 0)), (v5, zI K 20000 (fun _ => 0)), (v6, zI K 20000 (fun _ => 0)), (v7, zI K 24000 (fun _ => 0)), (v8, zI K 24000 (fun _ => 0)), (v9, zI K 60000 (fun _ => 0)), (v10, zL K 2000 (fun _ => 0)), (v11, zI K 1008 (fun _ => 0))]) rfl (Nat.le_of_ble_eq_true rfl) rfl fun h11 M11 => ?_⟩
  refine ⟨by decide, by decide, by decide, fun v12 f12 => M11.mk9 f12 (i := 0) (l' := [(a0, .inr (9, [.int 0, .ref v1, .ref v2, .ref v3, .ref v4, .ref v5, .ref v6, .int 0, .int 0, .int 0, .ref v7, .ref v8, .ref v9, .int 0, .int 0, .int 0, .int 0, .int 0, .ref v10, .int 0, .ref v11, .ref v12, .null])), (v1, zI K 1001 (fun _ => 0)), (v2, zI K 1001 (fun _ => 0)), (v3, zI K 1001 (fun _ => 0)), (v4, zI K 20000 (fun _ => 0)), (v5, zI K 20000 (fun _ => 0)), (v6, zI K 20000 (fun _ => 0)), (v7, zI K 24000 (fun _ => 0)), (v8, zI K 24000 (fun _ => 0)), (v9, zI K 60000 (fun _ => 0)), (v10, zL K 2000 (fun _ => 0)), (v11, zI K 1008 (fun _ => 0)), (v12, zI K 1000 (fun _ => 0))]) rfl (Nat.le_of_ble_eq_true rfl) rfl fun h12 M12 => ?_⟩
  refine ⟨by decide, by decide, by decide, fun v13 f13 => M12.mk9 f13 (i := 0) (l' := [(a0, .inr (9, [.int 0, .ref v1, .ref v2, .ref v3, .ref v4, .ref v5, .ref v6, .int 0, .int 0, .int 0, .ref v7, .ref v8, .ref v9, .int 0, .int 0, .int 0, .int 0, .int 0, .ref v10, .int 0, .ref v11, .ref v12, .ref v13])), (v1, zI K 1001 (fun _ => 0)), (v2, zI K 1001 (fun _ => 0)), (v3, zI K 1001 (fun _ => 0)), (v4, zI K 20000 (fun _ => 0)), (v5, zI K 20000 (fun _ => 0)), (v6, zI K 20000 (fun _ => 0)), (v7, zI K 24000 (fun _ => 0)), (v8, zI K 24000 (fun _ => 0)), (v9, zI K 60000 (fun _ => 0)), (v10, zL K 2000 (fun _ => 0)), (v11, zI K 1008 (fun _ => 0)), (v12, zI K 1000 (fun _ => 0)), (v13, zI K 1000 (fun _ => 0))]) rfl (Nat.le_of_ble_eq_true rfl) rfl fun h13 M13 => ?_⟩
  refine ⟨rfl, fun k => ([a0, v1, v2, v3, v4, v5, v6, v7, v8, v9, v10, v11, v12, v13] : List Nat).getD (mOf k) 0, rfl, ?_, M13.at9 (k := 0) rfl, ?_, M13.at9 (k := 10) rfl⟩
  · intro i hi j hj e
    refine mOf_inj i hi j hj ?_
    have li := mOf_in i hi
    have lj := mOf_in j hj
    dsimp only at e
    generalize mOf i = p at li e ⊢
    generalize mOf j = q at lj e ⊢
    have hl := M13.1
    unfold zm_nd at hl
    have hl2 : ([a0, v1, v2, v3, v4, v5, v6, v7, v8, v9, v10, v11, v12, v13] : List Nat).Nodup := hl
    have h2 := List.pairwise_iff_getElem.mp hl2
    rw [List.getD_eq_getElem?_getD, List.getD_eq_getElem?_getD, List.getElem?_eq_getElem (show p < ([a0, v1, v2, v3, v4, v5, v6, v7, v8, v9, v10, v11, v12, v13] : List Nat).length from li), List.getElem?_eq_getElem (show q < ([a0, v1, v2, v3, v4, v5, v6, v7, v8, v9, v10, v11, v12, v13] : List Nat).length from lj), Option.getD_some, Option.getD_some] at e
    rcases Nat.lt_trichotomy p q with z | z | z
    · exact absurd e (h2 p q li lj z)
    · exact z
    · exact absurd e.symm (h2 q p lj li z)
  · intro j hj
    simp only [mIx, List.mem_cons, List.not_mem_nil, or_false] at hj
    rcases hj with rfl | rfl | rfl | rfl | rfl | rfl | rfl | rfl | rfl | rfl | rfl | rfl
    · exact M13.at9 (k := 1) rfl
    · exact M13.at9 (k := 2) rfl
    · exact M13.at9 (k := 3) rfl
    · exact M13.at9 (k := 4) rfl
    · exact M13.at9 (k := 5) rfl
    · exact M13.at9 (k := 6) rfl
    · exact M13.at9 (k := 7) rfl
    · exact M13.at9 (k := 8) rfl
    · exact M13.at9 (k := 9) rfl
    · exact M13.at9 (k := 11) rfl
    · exact M13.at9 (k := 12) rfl
    · exact M13.at9 (k := 13) rfl
