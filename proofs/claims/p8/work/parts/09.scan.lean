theorem k_X7_open {K : zm_K} {h : zm_H} {s ca b a : Nat} {at9 lim flt sz : Int32} (hb : h b = some (.inr (0, [.ref a, .int sz]))) (hne : b ≠ s) :
    zm_Ct K M_X7_open [.ref s, .ref b] (zhS h s ca at9 lim flt) (fun v h' => v = none ∧ h' = zhS h s a (nI 0) sz (nI 0)) := by
  refine zm_meet (by decide) (Nat.le_of_ble_eq_true rfl) ?_
  intro E C Rt _
  refine B_X7_open_0 C Rt (Nat.le_refl 0) (Nat.le_refl 0) ?_
  have hb' : zhS h s ca at9 lim flt b = some (.inr (0, [.ref a, .int sz])) := (zhS_q hne).trans hb
  simp only [zm_gI, zm_gR, zm_pf, zhS_s, hb', zm_set_s, zm_set_n hne, zm_set_set, List.getElem?_cons_zero, List.getElem?_cons_succ, List.set_cons_zero, List.set_cons_succ, List.length_cons, List.length_nil, true_and]
  exact ⟨by decide, by decide, by decide, by decide, zm_set_set⟩
theorem k_X7_holds {K : zm_K} {h : zm_H} {s ca : Nat} {at9 lim flt : Int32} {x : Int64} :
    zm_Ct K M_X7_holds [.ref s, .long x] (zhS h s ca at9 lim flt) (fun v h' => (∃ y : Int32, v = some (.int y)) ∧ ∃ flt', h' = zhS h s ca at9 lim flt') := by
  refine zm_meet (by decide) (Nat.le_of_ble_eq_true rfl) ?_
  intro E C Rt _
  refine B_X7_holds_0 C Rt (Nat.le_refl 0) (Nat.le_refl 0) ?_
  have done : ∀ (y : Int32) (f : Int32), (∃ z : Int32, some (Value.int y) = some (Value.int z)) ∧ ∃ flt', zhS h s ca at9 lim f = zhS h s ca at9 lim flt' := fun y f => ⟨⟨y, rfl⟩, f, rfl⟩
  have e1 : zm_set (zhS h s ca at9 lim flt) s (.inr (7, [.ref ca, .int at9, .int lim, .int (nI 1)])) = zhS h s ca at9 lim (nI 1) := zm_set_set
  simp only [zm_gI, zm_pf, zhS_s, e1, List.getElem?_cons_zero, List.getElem?_cons_succ, List.set_cons_zero, List.set_cons_succ, List.length_cons, List.length_nil, true_and]
  exact ⟨fun _ => ⟨fun _ => ⟨by decide, done _ _⟩, fun _ => ⟨by decide, done _ _⟩⟩, fun _ => ⟨fun _ => ⟨by decide, fun _ => ⟨by decide, done _ _⟩, fun _ => ⟨by decide, done _ _⟩⟩, fun _ => ⟨fun _ => ⟨fun _ => ⟨by decide, done _ _⟩, fun _ => ⟨by decide, done _ _⟩⟩, fun _ => ⟨by decide, fun _ => ⟨by decide, done _ _⟩, fun _ => ⟨by decide, done _ _⟩⟩⟩⟩⟩
theorem k_X7_varint {K : zm_K} {h : zm_H} {s ca n : Nat} {t : Nat → Nat} {at9 lim flt : Int32} (hca : h ca = some (zB K n t)) (hn : n < 2 ^ 31) (hne : ca ≠ s) :
    zm_Ct K M_X7_varint [.ref s] (zhS h s ca at9 lim flt) (poSl h s ca lim) := by
  refine zm_meet (by decide) (Nat.le_of_ble_eq_true rfl) ?_
  intro E C Rt _
  refine B_X7_varint_0 C Rt ?_
  have rc : ∀ at9 flt, zm_rc (zhS h s ca at9 lim flt) s 7 := fun _ _ => by simp only [zm_rc, zhS_s]
  suffices key : ∀ (m k : Nat) (x : Int64) (at9 flt : Int32), k ≤ 10 → 10 - k < m → zm_Go E 0 0 4 [(0, .ref s), (1, .long x), (3, .int (nI k))] [] (zhS h s ca at9 lim flt) from key 11 0 _ _ _ (by omega) (by omega)
  intro m
  induction m with
  | zero => intro k x at9 flt _ g; omega
  | succ m ih =>
    intro k x at9 flt hk hm
    have g87 : k < 10 → ∀ (x : Int64) (at9 flt y : Int32), zm_Go E 0 0 87 [(0, .ref s), (1, .long x), (3, .int (nI k)), (4, .int y)] [] (zhS h s ca at9 lim flt) := by
      intro hk2 x at9 flt y
      refine B_X7_varint_87 C Rt (Nat.le_refl 0) (Nat.le_refl 0) ⟨fun _ => ?_, fun _ => ⟨⟨_, rfl⟩, _, _, rfl⟩⟩
      rw [nI_add]
      exact ih (k + 1) _ _ _ (by omega) (by omega)
    have g82 : k < 10 → ∀ (x : Int64) (at9 flt y : Int32), zm_Go E 0 0 82 [(0, .ref s), (1, .long x), (3, .int (nI k)), (4, .int y)] [] (zhS h s ca at9 lim flt) := by
      intro hk2 x at9 flt y
      refine B_X7_varint_82 C Rt (Nat.le_refl 0) (Nat.le_refl 0) ⟨rc _ _, _, k_X7_fail, fun v h' z => ?_⟩
      obtain ⟨rfl, rfl⟩ := z
      exact ⟨rfl, g87 hk2 _ _ _ _⟩
    have g70 : k < 10 → ∀ (x : Int64) (at9 flt y z w : Int32), zm_Go E 0 0 70 [(0, .ref s), (1, .long x), (3, .int (nI k)), (4, .int y), (5, .int z)] [.int w] (zhS h s ca at9 lim flt) := by
      intro hk2 x at9 flt y z w
      exact B_X7_varint_70 C Rt ⟨fun _ => g82 hk2 _ _ _ _, fun _ => ⟨fun _ => g87 hk2 _ _ _ _, fun _ => g82 hk2 _ _ _ _⟩⟩
    have g69 : k < 10 → ∀ (x : Int64) (at9 flt y z : Int32), zm_Go E 0 0 69 [(0, .ref s), (1, .long x), (3, .int (nI k)), (4, .int y), (5, .int z)] [] (zhS h s ca at9 lim flt) := fun hk2 x at9 flt y z => B_X7_varint_69 C Rt (g70 hk2 _ _ _ _ _ _)
    refine B_X7_varint_4 C Rt (Nat.le_refl 0) (Nat.le_refl 0) ⟨fun _ => ⟨⟨_, rfl⟩, _, _, rfl⟩, fun g => ⟨rc _ _, _, k_X7_failed, fun v h' z => ?_⟩⟩
    have hk2 : k < 10 := by
      rcases Nat.lt_or_ge k 10 with q | q
      · exact q
      · exact absurd (nI_le q (by omega)) g
    obtain ⟨rfl, z⟩ := z
    obtain ⟨y, rfl⟩ : ∃ y : Int32, v = some (.int y) := by
      rcases z with ⟨_, e⟩ | ⟨_, e⟩
      · exact ⟨_, e⟩
      · exact ⟨_, e⟩
    refine ⟨y, rfl, fun _ => ⟨⟨_, rfl⟩, _, _, rfl⟩, fun _ => ⟨rc _ _, _, k_X7_nextByte hca hn hne, fun v h' z => ?_⟩⟩
    obtain ⟨⟨b, rfl⟩, at2, flt2, rfl⟩ := z
    refine ⟨b, rfl, ?_⟩
    exact ⟨fun _ => ⟨fun _ => g69 hk2 _ _ _ _ _, fun _ => ⟨fun _ => g69 hk2 _ _ _ _ _, fun _ => g70 hk2 _ _ _ _ _ _⟩⟩, fun _ => ⟨fun _ => ⟨fun _ => g69 hk2 _ _ _ _ _, fun _ => ⟨fun _ => g69 hk2 _ _ _ _ _, fun _ => g70 hk2 _ _ _ _ _ _⟩⟩, fun _ => ⟨fun _ => g69 hk2 _ _ _ _ _, fun _ => ⟨fun _ => g69 hk2 _ _ _ _ _, fun _ => g70 hk2 _ _ _ _ _ _⟩⟩⟩⟩
theorem k_X7_bitsAt {K : zm_K} {h : zm_H} {s ca n : Nat} {t : Nat → Nat} {at9 lim flt x1 x2 : Int32} (hca : h ca = some (zB K n t)) (hn : n < 2 ^ 31) (hne : ca ≠ s) :
    zm_Ct K M_X7_bitsAt [.ref s, .int x1, .int x2] (zhS h s ca at9 lim flt) (fun v h' => h' = zhS h s ca at9 lim flt ∧ ∃ y : Int64, v = some (.long y)) := by
  refine zm_meet (by decide) (Nat.le_of_ble_eq_true rfl) ?_
  intro E C Rt _
  refine B_X7_bitsAt_0 C Rt ?_
  have hc : zhS h s ca at9 lim flt ca = some (.inl (K.2.2 0, n, .inl (fun j => sb_b (t j)))) := (zhS_q hne).trans hca
  suffices key : ∀ (m : Nat) (k : Int32) (x : Int64), (∀ j, j ≤ n → at9 + k = nI j → n - j < m) → zm_Go E 0 0 7 [(0, .ref s), (1, .int x1), (2, .int x2), (3, .long x), (5, .int k)] [] (zhS h s ca at9 lim flt) from key (n + 1) _ _ (fun j _ _ => by omega)
  intro m
  induction m with
  | zero =>
    intro k x hm
    refine B_X7_bitsAt_7 C Rt (Nat.le_refl 0) (Nat.le_refl 0) ⟨fun _ => ⟨fun _ => ⟨rfl, _, rfl⟩, fun _ => ⟨rfl, _, rfl⟩⟩, fun _ => ?_⟩
    simp only [zm_gI, zm_gR, zm_al, zhS_s, hc, List.getElem?_cons_zero, List.getElem?_cons_succ, true_and]
    refine ⟨fun _ => ⟨_, rfl⟩, fun g => ⟨fun g2 => ?_, fun _ => ⟨_, rfl⟩⟩⟩
    obtain ⟨j, hj, e⟩ := zix g g2 hn
    exact absurd (hm j (by omega) e) (by omega)
  | succ m ih =>
    intro k x hm
    refine B_X7_bitsAt_7 C Rt (Nat.le_refl 0) (Nat.le_refl 0) ⟨fun _ => ⟨fun _ => ⟨rfl, _, rfl⟩, fun _ => ⟨rfl, _, rfl⟩⟩, fun _ => ?_⟩
    simp only [zm_gI, zm_gR, zm_al, zm_ld, zhS_s, hc, List.getElem?_cons_zero, List.getElem?_cons_succ, true_and]
    refine ⟨fun _ => ⟨_, rfl⟩, fun g => ⟨fun g2 => ?_, fun _ => ⟨_, rfl⟩⟩⟩
    obtain ⟨j, hj, e⟩ := zix g g2 hn
    have e2 : ∀ j', j' ≤ n → at9 + (k + nI 1) = nI j' → n - j' < m := by
      intro j' hj' e'
      rw [← Int32.add_assoc, e, nI_add] at e'
      have := (nI_eq (by omega) (by omega)).mp e'
      have := hm j (by omega) e
      omega
    rw [e]
    exact ⟨vp_in_nI hj hn, fun _ => ih _ _ e2, fun _ => ih _ _ e2⟩
