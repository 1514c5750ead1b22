/-! the cells of the class: bytes as numbers below 256 -/
def zup {α : Type} (t : Nat → α) (k : Nat) (x : α) : Nat → α := fun j => if j = k then x else t j
def zB (K : zm_K) (n : Nat) (t : Nat → Nat) : va_E := .inl (K.2.2 0, n, .inl (fun j => sb_b (t j)))
def zI (K : zm_K) (n : Nat) (f : Nat → Int32) : va_E := .inl (K.2.2 1, n, .inl f)
def zL (K : zm_K) (n : Nat) (f : Nat → Int64) : va_E := .inl (K.2.2 2, n, .inr (.inl f))
theorem zc_b (x : Int32) : x.toInt8.toInt32 = sb_b (x.toBitVec.toNat % 256) := by
  unfold sb_b nI
  apply Int32.toBitVec_inj.mp
  simp only [Int32.toBitVec_ofNat, Int8.toBitVec_toInt32, Int32.toBitVec_toInt8]
  congr 1
  rw [BitVec.signExtend_eq_setWidth_of_le _ (by decide), BitVec.signExtend_eq_setWidth_of_le _ (by decide)]
  apply BitVec.eq_of_toNat_eq
  simp
theorem zc_ub (t : Nat → Nat) (k c : Nat) : upd (fun j => sb_b (t j)) k (sb_b c) = fun j => sb_b (zup t k c j) := by
  funext j
  by_cases h : j = k
  · simp [upd, zup, h]
  · simp [upd, zup, h]
/-- a Bytes b with its array a of n places: contents and size -/
def zhB (K : zm_K) (h : zm_H) (b a n : Nat) (s : (Nat → Nat) × Nat) : zm_H := zm_set (zm_set h a (zB K n s.1)) b (.inr (0, [.ref a, .int (nI s.2)]))
theorem zhB_b {K : zm_K} {h : zm_H} {b a n : Nat} {s : (Nat → Nat) × Nat} : zhB K h b a n s b = some (.inr (0, [.ref a, .int (nI s.2)])) := zm_set_s _ _ _
theorem zhB_a {K : zm_K} {h : zm_H} {b a n : Nat} {s : (Nat → Nat) × Nat} (hab : a ≠ b) : zhB K h b a n s a = some (zB K n s.1) := (zm_set_n hab).trans (zm_set_s _ _ _)
theorem zhB_q {K : zm_K} {h : zm_H} {b a n q : Nat} {s : (Nat → Nat) × Nat} (hb : q ≠ b) (ha : q ≠ a) : zhB K h b a n s q = h q := (zm_set_n hb).trans (zm_set_n ha)
theorem zhB_zhB {K : zm_K} {h : zm_H} {b a n : Nat} {s s' : (Nat → Nat) × Nat} : zhB K (zhB K h b a n s) b a n s' = zhB K h b a n s' := by
  funext q
  by_cases hb : q = b
  · subst hb
    rw [zhB_b, zhB_b]
  · by_cases ha : q = a
    · subst ha
      rw [zhB_a hb, zhB_a hb]
    · rw [zhB_q hb ha, zhB_q hb ha, zhB_q hb ha]
theorem zhB_id {K : zm_K} {h : zm_H} {b a n sz : Nat} {t : Nat → Nat} (hb : h b = some (.inr (0, [.ref a, .int (nI sz)]))) (ha : h a = some (zB K n t)) : zhB K h b a n (t, sz) = h := by
  funext q
  by_cases h1 : q = b
  · subst h1
    rw [zhB_b, hb]
  · by_cases h2 : q = a
    · subst h2
      rw [zhB_a h1, ha]
    · rw [zhB_q h1 h2]
theorem zB_ne {K : zm_K} {h : zm_H} {b a n : Nat} {t : Nat → Nat} {o : Nat × List Value} (hb : h b = some (.inr o)) (ha : h a = some (zB K n t)) : a ≠ b := fun q => by
  subst q
  rw [ha] at hb
  simp [zB] at hb
/-- one byte more, where there is room -/
def zpb (n : Nat) (s : (Nat → Nat) × Nat) (c : Nat) : (Nat → Nat) × Nat := if s.2 < n then (zup s.1 s.2 c, s.2 + 1) else s
theorem zpb_le {n : Nat} {s : (Nat → Nat) × Nat} {c : Nat} (h : s.2 ≤ n) : (zpb n s c).2 ≤ n := by
  unfold zpb
  split
  · show s.2 + 1 ≤ n
    omega
  · exact h
theorem c_X0_put {K : zm_K} {h : zm_H} {b a n sz : Nat} {t : Nat → Nat} {x : Int32} (hb : h b = some (.inr (0, [.ref a, .int (nI sz)]))) (ha : h a = some (zB K n t)) (hn : n < 2 ^ 31) (hs : sz ≤ n) :
    zm_Ct K M_X0_put [.ref b, .int x] h (fun r h' => r = none ∧ h' = zhB K h b a n (zpb n (t, sz) (x.toBitVec.toNat % 256))) := by
  refine zm_meet (by decide) (Nat.le_of_ble_eq_true rfl) ?_
  intro E C Rt _
  have hab := zB_ne hb ha
  refine B_X0_put_0 C Rt (Nat.le_refl 0) (Nat.le_refl 0) ?_
  have hcmp : nI n ≤ nI sz ↔ n ≤ sz := nI_leI hn (by omega)
  have hid := zhB_id hb ha
  unfold zB at ha
  simp only [zm_gI, zm_gR, zm_al, zm_sB, zm_pf, hb, ha, zm_set_n hab.symm, List.getElem?_cons_zero, List.getElem?_cons_succ, List.set_cons_zero, List.set_cons_succ, List.length_cons, List.length_nil, true_and, hcmp]
  refine ⟨fun c => ?_, fun c => ?_⟩
  · rw [zpb, if_neg (by show ¬ sz < n; omega), hid]
  · rw [zpb, if_pos (by show sz < n; omega)]
    refine ⟨vp_in_nI (by omega) hn, by decide, ?_⟩
    rw [pk_vb, zc_b, nI_clamp (by omega), zc_ub, nI_add]
    rfl
/-- put, in a heap of its own form -/
theorem k_X0_put {K : zm_K} {h : zm_H} {b a n : Nat} {s : (Nat → Nat) × Nat} {x : Int32} (hab : a ≠ b) (hn : n < 2 ^ 31) (hs : s.2 ≤ n) :
    zm_Ct K M_X0_put [.ref b, .int x] (zhB K h b a n s) (fun r h' => r = none ∧ h' = zhB K h b a n (zpb n s (x.toBitVec.toNat % 256))) := by
  have q := c_X0_put (x := x) (zhB_b (K := K) (h := h) (b := b) (a := a) (n := n) (s := s)) (zhB_a hab) hn hs
  simpa only [zhB_zhB] using q
theorem w_X0_put {K : zm_K} {h : zm_H} {b a n : Nat} {s : (Nat → Nat) × Nat} {x : Int32} {F : zm_H → Prop} (hab : a ≠ b) (hn : n < 2 ^ 31) (hs : s.2 ≤ n) (k : F (zhB K h b a n (zpb n s (x.toBitVec.toNat % 256)))) :
    zm_rc (zhB K h b a n s) b 0 ∧ zm_cv K M_X0_put [.ref b, .int x] (zhB K h b a n s) F := by
  refine ⟨by simp only [zm_rc, zhB_b], _, k_X0_put hab hn hs, fun r h' q => ?_⟩
  obtain ⟨rfl, rfl⟩ := q
  exact ⟨rfl, k⟩
theorem k_X0_putInt {K : zm_K} {h : zm_H} {b a n : Nat} {s : (Nat → Nat) × Nat} {x : Int32} (hab : a ≠ b) (hn : n < 2 ^ 31) (hs : s.2 ≤ n) :
    zm_Ct K M_X0_putInt [.ref b, .int x] (zhB K h b a n s) (fun r h' => r = none ∧ ∃ c0 c1 c2 c3, h' = zhB K h b a n (zpb n (zpb n (zpb n (zpb n s c0) c1) c2) c3)) := by
  refine zm_meet (by decide) (Nat.le_of_ble_eq_true rfl) ?_
  intro E C Rt _
  refine B_X0_putInt_0 C Rt (Nat.le_refl 0) (Nat.le_refl 0) ?_
  refine w_X0_put hab hn hs ?_
  refine w_X0_put hab hn (zpb_le hs) ?_
  refine w_X0_put hab hn (zpb_le (zpb_le hs)) ?_
  refine w_X0_put hab hn (zpb_le (zpb_le (zpb_le hs))) ?_
  exact ⟨rfl, _, _, _, _, rfl⟩
/-- putVarint: some bytes more -/
theorem k_X0_putVarint {K : zm_K} {h : zm_H} {b a n : Nat} {s : (Nat → Nat) × Nat} {x : Int64} (hab : a ≠ b) (hn : n < 2 ^ 31) (hs : s.2 ≤ n) :
    zm_Ct K M_X0_putVarint [.ref b, .long x] (zhB K h b a n s) (fun r h' => r = none ∧ ∃ s', s'.2 ≤ n ∧ h' = zhB K h b a n s') := by
  refine zm_meet (by decide) (Nat.le_of_ble_eq_true rfl) ?_
  intro E C Rt _
  refine B_X0_putVarint_0 C Rt ?_
  suffices key : ∀ (m k : Nat) (x : Int64) (s : (Nat → Nat) × Nat), s.2 ≤ n → k ≤ 10 → 10 - k < m → zm_Go E 0 0 5 [(0, .ref b), (3, .long x), (5, .int (nI k))] [] (zhB K h b a n s) from key 10 1 x s hs (by omega) (by omega)
  intro m
  induction m with
  | zero => intro k x s _ _ h3; omega
  | succ m ih =>
    intro k x s hs hk hm
    refine B_X0_putVarint_5 C Rt (Nat.le_refl 0) (Nat.le_refl 0) ⟨fun c => ?_, fun c => ⟨fun c2 => ?_, fun c2 => ?_⟩⟩
    · exact w_X0_put hab hn hs ⟨rfl, _, zpb_le hs, rfl⟩
    · exact w_X0_put hab hn hs ⟨rfl, _, zpb_le hs, rfl⟩
    · refine w_X0_put hab hn hs ?_
      have hk2 : k < 10 := by
        rcases Nat.lt_or_ge k 10 with q | q
        · exact q
        · exact absurd (nI_le q (by omega)) c
      rw [nI_add]
      exact ih (k + 1) _ _ (zpb_le hs) (by omega) (by omega)
theorem k_X0_putZeros {K : zm_K} {h : zm_H} {b a n : Nat} {s : (Nat → Nat) × Nat} {x : Int32} (hab : a ≠ b) (hn : n < 2 ^ 31) (hs : s.2 ≤ n) :
    zm_Ct K M_X0_putZeros [.ref b, .int x] (zhB K h b a n s) (fun r h' => r = none ∧ ∃ s', s'.2 ≤ n ∧ h' = zhB K h b a n s') := by
  refine zm_meet (by decide) (Nat.le_of_ble_eq_true rfl) ?_
  intro E C Rt _
  refine B_X0_putZeros_0 C Rt ?_
  suffices key : ∀ (m : Nat) (k : Int32) (s : (Nat → Nat) × Nat), s.2 ≤ n → n - s.2 < m → zm_Go E 0 0 2 [(0, .ref b), (1, .int x), (2, .int k)] [] (zhB K h b a n s) from key (n + 1) _ s hs (by omega)
  intro m
  induction m with
  | zero => intro k s _ h3; omega
  | succ m ih =>
    intro k s hs hm
    refine B_X0_putZeros_2 C Rt (Nat.le_refl 0) (Nat.le_refl 0) ⟨fun c => ⟨rfl, s, hs, rfl⟩, fun c => ?_⟩
    have hcmp : nI n ≤ nI s.2 ↔ n ≤ s.2 := nI_leI hn (by omega)
    have ha : zhB K h b a n s a = some (.inl (K.2.2 0, n, .inl (fun j => sb_b (s.1 j)))) := zhB_a hab
    simp only [zm_gI, zm_gR, zm_al, zm_sB, zm_pf, zhB_b, ha, zm_set_n hab.symm, List.getElem?_cons_zero, List.getElem?_cons_succ, List.set_cons_zero, List.set_cons_succ, List.length_cons, List.length_nil, true_and, hcmp]
    refine ⟨fun c => ⟨s, hs, rfl⟩, fun c => ⟨vp_in_nI (by omega) hn, by decide, ?_⟩⟩
    have e : zm_set (zm_set (zhB K h b a n s) a (.inl (K.2.2 0, n, .inl (upd (fun j => sb_b (s.1 j)) (nI s.2).toNatClampNeg (vp_nar .byte (nI 0)))))) b (.inr (0, [.ref a, .int (nI s.2 + nI 1)])) = zhB K h b a n (zup s.1 s.2 0, s.2 + 1) := by
      rw [show vp_nar .byte (nI 0) = sb_b 0 from rfl, nI_clamp (by omega), zc_ub, nI_add]
      exact zhB_zhB (s' := (zup s.1 s.2 0, s.2 + 1))
    rw [e]
    exact ih _ _ (by show s.2 + 1 ≤ n; omega) (by show n - (s.2 + 1) < m; omega)
theorem zsubI {a b : Nat} (ha : a < 2 ^ 31) (hb : b < 2 ^ 31) : (nI a - nI b).toInt = (a : Int) - b := by
  rw [Int32.toInt_sub, nI_toInt (by omega), nI_toInt (by omega)]
  exact Int.bmod_eq_of_le (by omega) (by omega)
theorem zle_sub {m a p : Nat} (hm : m < 2 ^ 31) (ha : a < 2 ^ 31) (hp : p < 2 ^ 31) : nI m ≤ nI a - nI p ↔ m + p ≤ a := by
  rw [Int32.le_iff_toInt_le, zsubI ha hp, nI_toInt hm]
  omega
theorem zcpy (f g : Nat → Nat) (p q m : Nat) : va_cpy (fun j => sb_b (f j)) (fun j => sb_b (g j)) p q m = fun j => sb_b (va_cpy f g p q m j) := by
  funext j
  unfold va_cpy
  split <;> rfl
/-- an index that is in range is a small number -/
theorem zix {x : Int32} {n : Nat} (h0 : ¬ x < 0) (h1 : x < nI n) (hn : n < 2 ^ 31) : ∃ j, j < n ∧ x = nI j := by
  obtain ⟨j, hj, e⟩ := nI_of h0
  subst e
  exact ⟨j, (nI_ltI hj hn).mp h1, rfl⟩
theorem zc_st {K : zm_K} {h : zm_H} {b a n : Nat} {s : (Nat → Nat) × Nat} {j : Nat} {y : Int32} (hj : j < 2 ^ 31) (hab : a ≠ b) : zm_set (zhB K h b a n s) a (.inl (K.2.2 0, n, .inl (upd (fun j => sb_b (s.1 j)) (nI j).toNatClampNeg (vp_nar .byte y.toInt8.toInt32)))) = zhB K h b a n (zup s.1 j (y.toBitVec.toNat % 256), s.2) := by
  rw [pk_vb, zc_b, nI_clamp hj, zc_ub]
  funext q
  by_cases h1 : q = a
  · subst h1
    rw [zm_set_s, zhB_a hab]
    rfl
  · rw [zm_set_n h1]
    by_cases h2 : q = b
    · subst h2
      rw [zhB_b, zhB_b]
    · rw [zhB_q h2 h1, zhB_q h2 h1]
theorem k_X0_setBits {K : zm_K} {h : zm_H} {b a n : Nat} {s : (Nat → Nat) × Nat} {x1 x2 x3 : Int32} {x4 : Int64} (hab : a ≠ b) (hn : n < 2 ^ 31) (hs : s.2 ≤ n) :
    zm_Ct K M_X0_setBits [.ref b, .int x1, .int x2, .int x3, .long x4] (zhB K h b a n s) (fun r h' => r = none ∧ ∃ t', h' = zhB K h b a n (t', s.2)) := by
  refine zm_meet (by decide) (Nat.le_of_ble_eq_true rfl) ?_
  intro E C Rt _
  refine B_X0_setBits_0 C Rt ?_
  suffices key : ∀ (m : Nat) (k : Int32) (t : Nat → Nat), (∀ j, j ≤ n → x1 + k = nI j → n - j < m) → zm_Go E 0 0 5 [(0, .ref b), (1, .int x1), (2, .int x2), (3, .int x3), (4, .long x4), (6, .int k)] [] (zhB K h b a n (t, s.2)) from key (n + 1) _ s.1 (fun j _ _ => by omega)
  intro m
  induction m with
  | zero =>
    intro k t hm
    refine B_X0_setBits_5 C Rt (Nat.le_refl 0) (Nat.le_refl 0) ⟨fun _ => ⟨rfl, t, rfl⟩, fun _ => ⟨fun _ => ⟨rfl, t, rfl⟩, fun c => ?_⟩⟩
    simp only [zm_gI, zhB_b, List.getElem?_cons_zero, List.getElem?_cons_succ, true_and]
    refine ⟨fun c2 => ?_, fun _ => ⟨t, rfl⟩⟩
    obtain ⟨j, hj, e⟩ := zix c c2 (by omega)
    exact absurd (hm j (by omega) e) (by omega)
  | succ m ih =>
    intro k t hm
    refine B_X0_setBits_5 C Rt (Nat.le_refl 0) (Nat.le_refl 0) ⟨fun _ => ⟨rfl, t, rfl⟩, fun _ => ⟨fun _ => ⟨rfl, t, rfl⟩, fun c => ?_⟩⟩
    have ha : zhB K h b a n (t, s.2) a = some (.inl (K.2.2 0, n, .inl (fun j => sb_b (t j)))) := zhB_a hab
    simp only [zm_gI, zhB_b, List.getElem?_cons_zero, List.getElem?_cons_succ, true_and]
    refine ⟨fun c2 => ?_, fun _ => ⟨t, rfl⟩⟩
    obtain ⟨j, hj, e⟩ := zix c c2 (by omega)
    have hin : vp_in (nI j) n := vp_in_nI (by omega) hn
    have e2 : ∀ j', j' ≤ n → x1 + (k + nI 1) = nI j' → n - j' < m := by
      intro j' hj' e'
      rw [← Int32.add_assoc, e, nI_add] at e'
      have := (nI_eq (by omega) (by omega)).mp e'
      have := hm j (by omega) e
      omega
    have hst := fun y => zc_st (K := K) (h := h) (n := n) (s := (t, s.2)) (j := j) (y := y) (by omega) hab
    simp only at hst
    simp only [zm_gR, zm_ld, zm_sB, zhB_b, ha, e, hin, hst, List.getElem?_cons_zero, List.getElem?_cons_succ, true_and]
    exact ⟨fun _ => ih _ _ e2, fun _ => ih _ _ e2⟩
theorem k_X0_putAll {K : zm_K} {h : zm_H} {b a n src n2 : Nat} {t2 : Nat → Nat} {s : (Nat → Nat) × Nat} {x2 x3 : Int32} (hab : a ≠ b) (hn : n < 2 ^ 31) (hs : s.2 ≤ n) (hsa : src ≠ a) (hsb : src ≠ b) (hsrc : h src = some (zB K n2 t2)) (hn2 : n2 < 2 ^ 31) :
    zm_Ct K M_X0_putAll [.ref b, .ref src, .int x2, .int x3] (zhB K h b a n s) (fun r h' => r = none ∧ ∃ s', s'.2 ≤ n ∧ h' = zhB K h b a n s') := by
  refine zm_meet (by decide) (Nat.le_of_ble_eq_true rfl) ?_
  intro E C Rt _
  refine B_X0_putAll_0 C Rt (Nat.le_refl 0) (Nat.le_refl 0) ?_
  have ha : zhB K h b a n s a = some (.inl (K.2.2 0, n, .inl (fun j => sb_b (s.1 j)))) := zhB_a hab
  have hr : zhB K h b a n s src = some (.inl (K.2.2 0, n2, .inl (fun j => sb_b (t2 j)))) := (zhB_q hsb hsa).trans hsrc
  refine ⟨fun _ => ⟨rfl, s, hs, rfl⟩, fun c1 => ⟨fun _ => ⟨rfl, s, hs, rfl⟩, fun c2 => ?_⟩⟩
  simp only [zm_gI, zm_gR, zm_al, zm_cp, zm_pf, zhB_b, ha, hr, zm_set_n hab.symm, List.getElem?_cons_zero, List.getElem?_cons_succ, List.set_cons_zero, List.set_cons_succ, List.length_cons, List.length_nil, true_and]
  refine ⟨fun c3 => ⟨fun c4 => ?_, fun _ => ⟨s, hs, rfl⟩⟩, fun _ => ⟨s, hs, rfl⟩⟩
  obtain ⟨p, hp, rfl⟩ := nI_of c1
  obtain ⟨m, hm, rfl⟩ := nI_of c2
  have g3 := (zle_sub hm hn2 hp).mp c3
  have g4 := (zle_sub hm hn (by omega)).mp c4
  rw [nI_clamp hp, nI_clamp hm, nI_clamp (show s.2 < 2 ^ 31 by omega), zcpy, nI_add]
  refine ⟨c1, nI_pos (by omega), c2, by omega, by omega, fun i _ => sb_fitB _, by decide, (va_cpy t2 s.1 p s.2 m, s.2 + m), by show s.2 + m ≤ n; omega, ?_⟩
  exact zhB_zhB (s' := (va_cpy t2 s.1 p s.2 m, s.2 + m))
