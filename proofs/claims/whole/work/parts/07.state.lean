/-! the cells of the class: bytes as numbers below 256 -/
def zup {α : Type} (t : Nat → α) (k : Nat) (x : α) : Nat → α := fun j => if j = k then x else t j
def zB (K : zm_K) (n : Nat) (t : Nat → Nat) : va_E := .inl (K.2.2 0, n, .inl (fun j => sb_b (t j)))
def zI (K : zm_K) (n : Nat) (f : Nat → Int32) : va_E := .inl (K.2.2 1, n, .inl f)
def zL (K : zm_K) (n : Nat) (f : Nat → Int64) : va_E := .inl (K.2.2 2, n, .inr (.inl f))
theorem zc_b (x : Int32) : x.toInt8.toInt32 = sb_b (x.toBitVec.toNat % 256) := by
  unfold sb_b nI
  apply Int32.toBitVec_inj.mp
  simp
theorem zc_ub (t : Nat → Nat) (k c : Nat) : upd (fun j => sb_b (t j)) k (sb_b c) = fun j => sb_b (zup t k c j) := by
  funext j
  by_cases h : j = k
  · simp [upd, zup, h]
  · simp [upd, zup, h]
/-- a Bytes b with its array a of n places: contents and size -/
def zhB (K : zm_K) (h : zm_H) (b a n : Nat) (s : (Nat → Nat) × Nat) : zm_H := zm_set (zm_set h a (zB K n s.1)) b (.inr (0, [.ref a, .int (nI s.2)]))
theorem zhB_b {K : zm_K} {h : zm_H} {b a n : Nat} {s : (Nat → Nat) × Nat} : zhB K h b a n s b = some (.inr (0, [.ref a, .int (nI s.2)])) := zm_set_s _ _ _
theorem zhB_a {K : zm_K} {h : zm_H} {b a n : Nat} {s : (Nat → Nat) × Nat} (hab : a ≠ b) : zhB K h b a n s a = some (zB K n s.1) := (zm_set_n hab).trans (zm_set_s _ _ _)
theorem zhB_q {K : zm_K} {h : zm_H} {b a n q : Nat} {s : (Nat → Nat) × Nat} (hb : q ≠ b) (ha : q ≠ a) : zhB K h b a n s q = h q := (zm_set_n hb).trans (zm_set_n ha)
theorem zhB_zhB {K : zm_K} {h : zm_H} {b a n : Nat} {s s' : (Nat → Nat) × Nat} : zhB K (zhB K h b a n s) b a n s' = zhB K h b a n s' := by
  funext q
  by_cases hb : q = b
  · subst hb
    rw [zhB_b, zhB_b]
  · by_cases ha : q = a
    · subst ha
      rw [zhB_a hb, zhB_a hb]
    · rw [zhB_q hb ha, zhB_q hb ha, zhB_q hb ha]
theorem zhB_id {K : zm_K} {h : zm_H} {b a n sz : Nat} {t : Nat → Nat} (hb : h b = some (.inr (0, [.ref a, .int (nI sz)]))) (ha : h a = some (zB K n t)) : zhB K h b a n (t, sz) = h := by
  funext q
  by_cases h1 : q = b
  · subst h1
    rw [zhB_b, hb]
  · by_cases h2 : q = a
    · subst h2
      rw [zhB_a h1, ha]
    · rw [zhB_q h1 h2]
theorem zB_ne {K : zm_K} {h : zm_H} {b a n : Nat} {t : Nat → Nat} {o : Nat × List Value} (hb : h b = some (.inr o)) (ha : h a = some (zB K n t)) : a ≠ b := fun q => by
  subst q
  rw [ha] at hb
  simp [zB] at hb
/-- one byte more, where there is room -/
def zpb (n : Nat) (s : (Nat → Nat) × Nat) (c : Nat) : (Nat → Nat) × Nat := if s.2 < n then (zup s.1 s.2 c, s.2 + 1) else s
theorem zpb_le {n : Nat} {s : (Nat → Nat) × Nat} {c : Nat} (h : s.2 ≤ n) : (zpb n s c).2 ≤ n := by
  unfold zpb
  split <;> simp <;> omega
theorem c_X0_put {K : zm_K} {h : zm_H} {b a n sz : Nat} {t : Nat → Nat} {x : Int32} (hb : h b = some (.inr (0, [.ref a, .int (nI sz)]))) (ha : h a = some (zB K n t)) (hn : n < 2 ^ 31) (hs : sz ≤ n) :
    zm_Ct K M_X0_put [.ref b, .int x] h (fun r h' => r = none ∧ h' = zhB K h b a n (zpb n (t, sz) (x.toBitVec.toNat % 256))) := by
  refine zm_meet (by decide) (Nat.le_of_ble_eq_true rfl) ?_
  intro E C Rt _
  have hab := zB_ne hb ha
  refine B_X0_put_0 C Rt (Nat.le_refl 0) (Nat.le_refl 0) ?_
  have hcmp : nI n ≤ nI sz ↔ n ≤ sz := nI_leI hn (by omega)
  have hid := zhB_id hb ha
  unfold zB at ha
  simp only [zm_gI, zm_gR, zm_al, zm_sB, zm_pf, hb, ha, zm_set_n hab.symm, List.getElem?_cons_zero, List.getElem?_cons_succ, List.set_cons_zero, List.set_cons_succ, List.length_cons, List.length_nil, true_and, hcmp]
  refine ⟨fun c => ?_, fun c => ?_⟩
  · rw [zpb, if_neg (by show ¬ sz < n; omega), hid]
  · rw [zpb, if_pos (by show sz < n; omega)]
    refine ⟨vp_in_nI (by omega) hn, by decide, ?_⟩
    rw [pk_vb, zc_b, nI_clamp (by omega), zc_ub, nI_add]
    rfl
