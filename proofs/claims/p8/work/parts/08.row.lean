/-! the texts: a Row r with its arrays ca (bytes) and sa (where each begins) -/
def zR (K : zm_K) (h : zm_H) (r ca sa c : Nat) (f t : Nat → Nat) : Prop := h r = some (.inr (5, [.ref ca, .ref sa, .int (nI c)])) ∧ h ca = some (zB K 20000 t) ∧ h sa = some (zI K 1001 (fun j => nI (f j))) ∧ c ≤ 1000 ∧ ∀ j, f j ≤ 20000
theorem k_X5_has {K : zm_K} {h : zm_H} {r ca sa c : Nat} {f t : Nat → Nat} {x : Int32} (R : zR K h r ca sa c f t) :
    zm_Ct K M_X5_has [.ref r, .int x] h (fun v h' => h' = h ∧ ((∃ j, j < c ∧ x = nI j ∧ v = some (.int (nI 1))) ∨ ((∀ j, j < c → x ≠ nI j) ∧ v = some (.int (nI 0))))) := by
  refine zm_meet (by decide) (Nat.le_of_ble_eq_true rfl) ?_
  intro E C Rt _
  obtain ⟨hr, hc, hs, hc1, hf⟩ := R
  refine B_X5_has_0 C Rt (Nat.le_refl 0) (Nat.le_refl 0) ?_
  simp only [zm_gI, hr, List.getElem?_cons_zero, List.getElem?_cons_succ, true_and]
  refine ⟨fun q => ⟨by decide, Or.inr ⟨fun j hj e => ?_, trivial⟩⟩, fun q => ⟨fun q2 => ⟨by decide, Or.inr ⟨fun j hj e => ?_, trivial⟩⟩, fun q2 => ⟨by decide, ?_⟩⟩⟩
  · rw [e] at q
    exact nI_pos (by omega) q
  · rw [e] at q2
    have := (nI_leI (by omega) (by omega)).mp q2
    omega
  · obtain ⟨j, hj, e⟩ := nI_of q
    subst e
    refine Or.inl ⟨j, ?_, rfl, trivial⟩
    rcases Nat.lt_or_ge j c with z | z
    · exact z
    · exact absurd (nI_le z hj) q2
theorem k_X5_total {K : zm_K} {h : zm_H} {r ca sa c : Nat} {f t : Nat → Nat} (R : zR K h r ca sa c f t) :
    zm_Ct K M_X5_total [.ref r] h (fun v h' => h' = h ∧ v = some (.int (nI (f c)))) := by
  refine zm_meet (by decide) (Nat.le_of_ble_eq_true rfl) ?_
  intro E C Rt _
  obtain ⟨hr, hc, hs, hc1, hf⟩ := R
  refine B_X5_total_0 C Rt (Nat.le_refl 0) (Nat.le_refl 0) ?_
  unfold zI at hs
  have hin : vp_in (nI c) 1001 := vp_in_nI (by omega) (by decide)
  have hcl : (nI c).toNatClampNeg = c := nI_clamp (by omega)
  simp only [zm_gI, zm_gR, zm_ld, hr, hs, hin, hcl, List.getElem?_cons_zero, List.getElem?_cons_succ, true_and]
theorem k_X5_lengthOf {K : zm_K} {h : zm_H} {r ca sa c : Nat} {f t : Nat → Nat} {x : Int32} (R : zR K h r ca sa c f t) :
    zm_Ct K M_X5_lengthOf [.ref r, .int x] h (fun v h' => h' = h ∧ ((∃ j, j < c ∧ x = nI j ∧ v = some (.int (nI (f (j + 1)) - nI (f j)))) ∨ ((∀ j, j < c → x ≠ nI j) ∧ v = some (.int (nI 0))))) := by
  refine zm_meet (by decide) (Nat.le_of_ble_eq_true rfl) ?_
  intro E C Rt _
  refine B_X5_lengthOf_0 C Rt (Nat.le_refl 0) (Nat.le_refl 0) ?_
  obtain ⟨hr, hc, hs, hc1, hf⟩ := id R
  refine ⟨by simp only [zm_rc, hr], _, k_X5_has R, fun v h' q => ?_⟩
  obtain ⟨rfl, q⟩ := q
  unfold zI at hs
  rcases q with ⟨j, hj, rfl, rfl⟩ | ⟨hn, rfl⟩
  · refine ⟨_, rfl, fun z => absurd z (by decide), fun _ => ?_⟩
    have hin : vp_in (nI j) 1001 := vp_in_nI (by omega) (by decide)
    have hin2 : vp_in (nI (j + 1)) 1001 := vp_in_nI (by omega) (by decide)
    have hcl : (nI j).toNatClampNeg = j := nI_clamp (by omega)
    have hcl2 : (nI (j + 1)).toNatClampNeg = j + 1 := nI_clamp (by omega)
    simp only [zm_gR, zm_ld, hr, hs, nI_add, hin, hin2, hcl, hcl2, List.getElem?_cons_zero, List.getElem?_cons_succ, true_and]
    exact Or.inl ⟨j, hj, rfl, rfl⟩
  · exact ⟨_, rfl, fun _ => ⟨rfl, Or.inr ⟨hn, rfl⟩⟩, fun z => absurd rfl z⟩
theorem k_X5_holdsMore {K : zm_K} {h : zm_H} {r ca sa c : Nat} {f t : Nat → Nat} {x : Int32} (R : zR K h r ca sa c f t) :
    zm_Ct K M_X5_holdsMore [.ref r, .int x] h (fun v h' => h' = h ∧ ((c < 1000 ∧ x ≤ nI (20000 - f c) ∧ v = some (.int (nI 1))) ∨ (¬ (c < 1000 ∧ x ≤ nI (20000 - f c)) ∧ v = some (.int (nI 0))))) := by
  refine zm_meet (by decide) (Nat.le_of_ble_eq_true rfl) ?_
  intro E C Rt _
  refine B_X5_holdsMore_0 C Rt (Nat.le_refl 0) (Nat.le_refl 0) ?_
  obtain ⟨hr, hc, hs, hc1, hf⟩ := id R
  have hcmp : nI 1000 ≤ nI c ↔ 1000 ≤ c := nI_leI (by decide) (by omega)
  simp only [zm_gI, hr, List.getElem?_cons_zero, List.getElem?_cons_succ, true_and, hcmp]
  refine ⟨fun q => ⟨by decide, Or.inr ⟨fun z => by omega, trivial⟩⟩, fun q => ⟨by simp only [zm_rc, hr], _, k_X5_total R, fun v h' z => ?_⟩⟩
  obtain ⟨rfl, rfl⟩ := z
  refine ⟨_, rfl, ?_⟩
  dsimp only
  rw [pk_sub (hf c)]
  refine ⟨fun z => ⟨by decide, rfl, Or.inr ⟨fun y => ?_, trivial⟩⟩, fun z => ⟨by decide, rfl, Or.inl ⟨by omega, Int32.not_lt.mp z, trivial⟩⟩⟩
  exact absurd y.2 (Int32.not_le.mpr z)
/-- append: a text more, or none; nothing else changes -/
def poR (K : zm_K) (h : zm_H) (r ca sa : Nat) : zm_Po := fun v h' => v = none ∧ (∃ c' f' t', zR K h' r ca sa c' f' t') ∧ ∀ q, q ≠ r → q ≠ ca → q ≠ sa → h' q = h q
theorem zR_ne {K : zm_K} {h : zm_H} {r ca sa c : Nat} {f t : Nat → Nat} (R : zR K h r ca sa c f t) : ca ≠ r ∧ sa ≠ r ∧ sa ≠ ca := by
  obtain ⟨hr, hc, hs, hc1, hf⟩ := R
  refine ⟨zB_ne hr hc, fun q => ?_, fun q => ?_⟩
  · subst q
    rw [hs] at hr
    simp [zI] at hr
  · subst q
    rw [hs] at hc
    simp [zI, zB] at hc
/-- behind an append: count, bytes and beginnings -/
theorem zR_app {K : zm_K} {h : zm_H} {r ca sa c : Nat} {f t : Nat → Nat} (R : zR K h r ca sa c f t) (hc : c < 1000) (t' : Nat → Nat) (e : Nat) (he : e ≤ 20000) (hA : zm_H) (h1 : hA ca = some (zB K 20000 t')) (h2 : ∀ q, q ≠ ca → hA q = h q) :
    poR K h r ca sa none (zm_set (zm_set hA r (.inr (5, [.ref ca, .ref sa, .int (nI (c + 1))]))) sa (.inl (K.2.2 1, 1001, .inl (upd (fun j => nI (f j)) (c + 1) (nI e))))) := by
  obtain ⟨n1, n2, n3⟩ := zR_ne R
  obtain ⟨hr, hcc, hs, hc1, hf⟩ := R
  refine ⟨rfl, ⟨c + 1, zup f (c + 1) e, t', ?_, ?_, ?_, by omega, fun j => ?_⟩, fun q q1 q2 q3 => ?_⟩
  · rw [zm_set_n n2.symm, zm_set_s]
  · rw [zm_set_n n3.symm, zm_set_n n1, h1]
  · rw [zm_set_s]
    unfold zI
    congr 5
    funext j
    by_cases hj : j = c + 1
    · simp [upd, zup, hj]
    · simp [upd, zup, hj]
  · unfold zup
    split
    · exact he
    · exact hf j
  · rw [zm_set_n q3, zm_set_n q1, h2 q q2]
theorem k_X5_append {K : zm_K} {h : zm_H} {r ca sa c a2 n2 : Nat} {f t t2 : Nat → Nat} {x1 x3 x4 : Int32} (R : zR K h r ca sa c f t) (h2 : h a2 = some (zB K n2 t2)) (hn2 : n2 ≤ 24000) (hne : a2 ≠ ca) :
    zm_Ct K M_X5_append [.ref r, .int x1, .ref a2, .int x3, .int x4] h (poR K h r ca sa) := by
  refine zm_meet (by decide) (Nat.le_of_ble_eq_true rfl) ?_
  intro E C Rt _
  obtain ⟨hr, hc, hs, hc1, hf⟩ := id R
  obtain ⟨n1, n2', n3⟩ := zR_ne R
  have same : poR K h r ca sa none h := ⟨rfl, ⟨c, f, t, R⟩, fun _ _ _ _ => rfl⟩
  refine B_X5_append_0 C Rt (Nat.le_refl 0) (Nat.le_refl 0) ⟨fun _ => same, fun g1 => ?_⟩
  have hrc : zm_rc h r 5 := by simp only [zm_rc, hr]
  simp only [zm_gI, hr, List.getElem?_cons_zero, List.getElem?_cons_succ, true_and]
  refine ⟨hrc, _, k_X5_lengthOf R, fun v h' q => ?_⟩
  obtain ⟨rfl, q⟩ := q
  obtain ⟨y, rfl, hy⟩ : ∃ y : Int32, v = some (.int y) ∧ ((∃ j, j < c ∧ nI c - nI 1 = nI j ∧ y = nI (f (j + 1)) - nI (f j)) ∨ y = nI 0) := by
    rcases q with ⟨j, a, b, e⟩ | ⟨_, e⟩
    · exact ⟨_, e, Or.inl ⟨j, a, b, rfl⟩⟩
    · exact ⟨_, e, Or.inr rfl⟩
  clear q
  refine ⟨y, rfl, fun _ => same, fun g2 => ⟨hrc, _, k_X5_holdsMore R, fun v h'' q => ?_⟩⟩
  obtain ⟨rfl, ⟨g3, g4, rfl⟩ | ⟨_, rfl⟩⟩ := q
  · refine ⟨_, rfl, fun _ => ⟨fun _ => same, fun g5 => ⟨fun _ => same, fun g6 => ?_⟩⟩, fun z => absurd z (by decide)⟩
    have h2' := h2
    unfold zB at h2'
    simp only [zm_al, h2', true_and]
    refine ⟨fun g7 => ⟨hrc, _, k_X5_total R, fun v h3 q => ?_⟩, fun _ => same⟩
    obtain ⟨rfl, rfl⟩ := q
    refine ⟨_, rfl, ?_⟩
    obtain ⟨p, hp, rfl⟩ := nI_of g1
    obtain ⟨q, hq, rfl⟩ := nI_of g5
    obtain ⟨m, hm, rfl⟩ := nI_of g6
    have g8 := (zle_sub hm (by omega) hq).mp g7
    have fc := hf c
    have hpy : p ≤ 20000 ∧ (0 < p → ∃ j, j + 1 = c ∧ f j + p ≤ f c) := by
      have g9 : nI p ≤ y := Int32.not_lt.mp g2
      rcases hy with ⟨j, hj, e1, rfl⟩ | rfl
      · have f1 := hf j
        have f2 := hf (j + 1)
        have g10 := (zle_sub hp (by omega) (by omega)).mp g9
        have e2 : c = j + 1 := by
          rcases Nat.eq_zero_or_pos c with z | z
          · omega
          · rw [pk_sub (by omega)] at e1
            have := (nI_eq (by omega) (by omega)).mp e1
            omega
        subst e2
        exact ⟨by omega, fun _ => ⟨j, rfl, by omega⟩⟩
      · have := (nI_leI hp (by omega)).mp g9
        exact ⟨by omega, fun z => by omega⟩
    rw [nI_add] at g4
    have g11 := (nI_leI (by omega) (by omega)).mp g4
    have hc' := hc
    have hs' := hs
    unfold zB at hc'
    unfold zI at hs'
    have clq : (nI q).toNatClampNeg = q := nI_clamp hq
    have clm : (nI m).toNatClampNeg = m := nI_clamp hm
    have clp : (nI p).toNatClampNeg = p := nI_clamp hp
    have cla : (nI (f c + p)).toNatClampNeg = f c + p := nI_clamp (by omega)
    have clf : (nI (f c)).toNatClampNeg = f c := nI_clamp (by omega)
    have clc : (nI (c + 1)).toNatClampNeg = c + 1 := nI_clamp (by omega)
    have inc : vp_in (nI (c + 1)) 1001 := vp_in_nI (by omega) (by decide)
    refine ⟨fun _ => ?_, fun g12 => ?_⟩
    · simp only [zm_gR, zm_gI, zm_cp, zm_pf, zm_sI, hr, h2', hc', hs', zm_set_n n1.symm, zm_set_s, zm_set_n n3, zm_set_n n2', nI_add, clq, clm, cla, clc, inc, List.getElem?_cons_zero, List.getElem?_cons_succ, List.set_cons_zero, List.set_cons_succ, List.length_cons, List.length_nil, true_and]
      refine ⟨nI_pos hq, nI_pos (by omega), nI_pos hm, by omega, by omega, fun i _ => sb_fitB _, by decide, ?_⟩
      exact zR_app R g3 (va_cpy t2 t q (f c + p) m) _ (by omega) _ (by rw [zm_set_s, zcpy]; rfl) (fun q hq => zm_set_n hq)
    · have g13 : 0 < p := by
        rcases Nat.eq_zero_or_pos p with z | z
        · subst z
          exact absurd (by decide) g12
        · exact z
      obtain ⟨j, rfl, g14⟩ := hpy.2 g13
      have fj := hf j
      have ej : nI (j + 1) - nI 1 = nI j := by rw [pk_sub (by omega)]; rfl
      have inj : vp_in (nI j) 1001 := vp_in_nI (by omega) (by decide)
      have clj : (nI j).toNatClampNeg = j := nI_clamp (by omega)
      have clfj : (nI (f j)).toNatClampNeg = f j := nI_clamp (by omega)
      simp only [zm_gR, zm_gI, zm_ld, zm_cp, zm_pf, zm_sI, hr, h2', hc', hs', zm_set_n n1.symm, zm_set_s, zm_set_n n3, zm_set_n n2', zm_set_n hne, ej, inj, clj, clfj, nI_add, clq, clm, clp, cla, clf, clc, inc, zcpy, List.getElem?_cons_zero, List.getElem?_cons_succ, List.set_cons_zero, List.set_cons_succ, List.length_cons, List.length_nil, true_and]
      refine ⟨nI_pos (by omega), nI_pos (by omega), nI_pos hp, by omega, by omega, fun i _ => sb_fitB _, nI_pos hq, nI_pos (by omega), nI_pos hm, by omega, by omega, fun i _ => sb_fitB _, by decide, ?_⟩
      exact zR_app R g3 (va_cpy t2 (va_cpy t t (f j) (f (j + 1)) p) q (f (j + 1) + p) m) _ (by omega) _ (by rw [zm_set_s]; rfl) (fun q hq => by rw [zm_set_n hq, zm_set_n hq])
  · exact ⟨_, rfl, fun z => absurd rfl z, fun _ => same⟩
theorem k_X5_commonWithLast {K : zm_K} {h : zm_H} {r ca sa c : Nat} {f t : Nat → Nat} {x : Int32} (R : zR K h r ca sa c f t) :
    zm_Ct K M_X5_commonWithLast [.ref r, .int x] h (fun v h' => h' = h ∧ ∃ y : Int32, v = some (.int y)) := by
  refine zm_meet (by decide) (Nat.le_of_ble_eq_true rfl) ?_
  intro E C Rt _
  obtain ⟨hr, hc, hs, hc1, hf⟩ := id R
  have hrc : zm_rc h r 5 := by simp only [zm_rc, hr]
  unfold zB at hc
  unfold zI at hs
  refine B_X5_commonWithLast_0 C Rt (Nat.le_refl 0) (Nat.le_refl 0) ⟨hrc, _, k_X5_has R, fun v h' q => ?_⟩
  obtain ⟨rfl, ⟨j, hj, rfl, rfl⟩ | ⟨_, rfl⟩⟩ := q
  · refine ⟨_, rfl, fun _ => ⟨rfl, _, rfl⟩, fun _ => ⟨fun g1 => ⟨hrc, _, k_X5_lengthOf R, fun v h' q => ?_⟩, fun _ => ⟨rfl, _, rfl⟩⟩⟩
    obtain ⟨rfl, q⟩ := q
    have hj0 : 0 < j := by
      rcases Nat.eq_zero_or_pos j with z | z
      · subst z
        exact absurd rfl g1
      · exact z
    obtain ⟨i, rfl⟩ : ∃ i, j = i + 1 := ⟨j - 1, by omega⟩
    have ei : nI (i + 1) - nI 1 = nI i := by rw [pk_sub (by omega)]; rfl
    obtain ⟨y, rfl, hy⟩ : ∃ y : Int32, v = some (.int y) ∧ y = nI (f (i + 1)) - nI (f i) := by
      rcases q with ⟨j, a, b, e⟩ | ⟨z, e⟩
      · rw [ei] at b
        have := (nI_eq (by omega) (by omega)).mp b
        subst this
        exact ⟨_, e, rfl⟩
      · exact absurd ei (z i (by omega))
    refine ⟨y, rfl, hrc, _, k_X5_lengthOf R, fun v h' q => ?_⟩
    obtain ⟨rfl, q⟩ := q
    obtain ⟨z, rfl, hz⟩ : ∃ y : Int32, v = some (.int y) ∧ y = nI (f (i + 2)) - nI (f (i + 1)) := by
      rcases q with ⟨j, a, b, e⟩ | ⟨z, e⟩
      · have := (nI_eq (by omega) (by omega)).mp b
        subst this
        exact ⟨_, e, rfl⟩
      · exact absurd rfl (z (i + 1) hj)
    refine ⟨z, rfl, ?_⟩
    have f0 := hf i
    have f1 := hf (i + 1)
    have f2 := hf (i + 2)
    -- the smaller of both lengths
    have hmin : ∀ k : Nat, k < 2 ^ 31 → ¬ (if z < y then z else y) ≤ nI k → k < 20000 ∧ f i + k < f (i + 1) ∧ f (i + 1) + k < f (i + 2) := by
      intro k hk g
      have g2 : ¬ z ≤ nI k ∧ ¬ y ≤ nI k := by
        split at g
        · rename_i w
          refine ⟨g, fun w2 => g (Int32.le_trans (Int32.le_of_lt w) w2)⟩
        · rename_i w
          refine ⟨fun w2 => g (Int32.le_trans (Int32.not_lt.mp w) w2), g⟩
      rw [hy, hz] at g2
      rw [Int32.le_iff_toInt_le, Int32.le_iff_toInt_le, zsubI (by omega) (by omega), zsubI (by omega) (by omega), nI_toInt hk] at g2
      omega
    have key : ∀ (m k : Nat), k ≤ 20000 → 20000 - k < m → zm_Go E 0 0 32 [(0, .ref r), (1, .int (nI (i + 1))), (2, .int (if z < y then z else y)), (3, .int (nI k))] [] h' := by
      intro m
      induction m with
      | zero => intro k _ g; omega
      | succ m ih =>
        intro k hk hm
        refine B_X5_commonWithLast_32 C Rt (Nat.le_refl 0) (Nat.le_refl 0) ⟨fun _ => ⟨rfl, _, rfl⟩, fun g => ?_⟩
        obtain ⟨g0, g1, g2⟩ := hmin k (by omega) g
        have in1 : vp_in (nI i) 1001 := vp_in_nI (by omega) (by decide)
        have in2 : vp_in (nI (i + 1)) 1001 := vp_in_nI (by omega) (by decide)
        have cl1 : (nI i).toNatClampNeg = i := nI_clamp (by omega)
        have cl2 : (nI (i + 1)).toNatClampNeg = i + 1 := nI_clamp (by omega)
        have in3 : vp_in (nI (f i + k)) 20000 := vp_in_nI (by omega) (by decide)
        have in4 : vp_in (nI (f (i + 1) + k)) 20000 := vp_in_nI (by omega) (by decide)
        simp only [zm_gR, zm_ld, hr, hc, hs, ei, in1, in2, cl1, cl2, nI_add, in3, in4, List.getElem?_cons_zero, List.getElem?_cons_succ, true_and]
        exact ⟨fun _ => ⟨_, rfl⟩, fun _ => ih (k + 1) (by omega) (by omega)⟩
    exact key 20001 0 (by omega) (by omega)
  · exact ⟨_, rfl, fun _ => ⟨rfl, _, rfl⟩, fun z => absurd rfl z⟩
theorem k_X5_areSame {K : zm_K} {h : zm_H} {r ca sa c : Nat} {f t : Nat → Nat} {x1 x2 : Int32} (R : zR K h r ca sa c f t) :
    zm_Ct K M_X5_areSame [.ref r, .int x1, .int x2] h (fun v h' => h' = h ∧ ∃ y : Int32, v = some (.int y)) := by
  refine zm_meet (by decide) (Nat.le_of_ble_eq_true rfl) ?_
  intro E C Rt _
  obtain ⟨hr, hc, hs, hc1, hf⟩ := id R
  have hrc : zm_rc h r 5 := by simp only [zm_rc, hr]
  unfold zB at hc
  unfold zI at hs
  refine B_X5_areSame_0 C Rt (Nat.le_refl 0) (Nat.le_refl 0) ⟨hrc, _, k_X5_has R, fun v h1 q => ?_⟩
  obtain ⟨rfl, ⟨j1, hj1, rfl, rfl⟩ | ⟨_, rfl⟩⟩ := q
  · refine ⟨_, rfl, fun _ => ⟨by decide, rfl, _, rfl⟩, fun _ => ⟨hrc, _, k_X5_has R, fun v h2 q => ?_⟩⟩
    obtain ⟨rfl, ⟨j2, hj2, rfl, rfl⟩ | ⟨_, rfl⟩⟩ := q
    · refine ⟨_, rfl, fun _ => ⟨by decide, rfl, _, rfl⟩, fun _ => ⟨hrc, _, k_X5_lengthOf R, fun v h3 q => ?_⟩⟩
      obtain ⟨rfl, q⟩ := q
      obtain ⟨y1, rfl, hy1⟩ : ∃ y : Int32, v = some (.int y) ∧ y = nI (f (j1 + 1)) - nI (f j1) := by
        rcases q with ⟨j, a, b, e⟩ | ⟨z, e⟩
        · have := (nI_eq (by omega) (by omega)).mp b
          subst this
          exact ⟨_, e, rfl⟩
        · exact absurd rfl (z j1 hj1)
      refine ⟨y1, rfl, hrc, _, k_X5_lengthOf R, fun v h4 q => ?_⟩
      obtain ⟨rfl, q⟩ := q
      obtain ⟨y2, rfl, hy2⟩ : ∃ y : Int32, v = some (.int y) ∧ y = nI (f (j2 + 1)) - nI (f j2) := by
        rcases q with ⟨j, a, b, e⟩ | ⟨z, e⟩
        · have := (nI_eq (by omega) (by omega)).mp b
          subst this
          exact ⟨_, e, rfl⟩
        · exact absurd rfl (z j2 hj2)
      refine ⟨y2, rfl, fun e12 => ⟨hrc, _, k_X5_lengthOf R, fun v h5 q => ?_⟩, fun _ => ⟨by decide, rfl, _, rfl⟩⟩
      obtain ⟨rfl, q⟩ := q
      obtain ⟨y3, rfl, hy3⟩ : ∃ y : Int32, v = some (.int y) ∧ y = nI (f (j1 + 1)) - nI (f j1) := by
        rcases q with ⟨j, a, b, e⟩ | ⟨z, e⟩
        · have := (nI_eq (by omega) (by omega)).mp b
          subst this
          exact ⟨_, e, rfl⟩
        · exact absurd rfl (z j1 hj1)
      refine ⟨y3, rfl, ?_⟩
      have f0 := hf j1
      have f1 := hf (j1 + 1)
      have f2 := hf j2
      have f3 := hf (j2 + 1)
      have hlen : ∀ k : Nat, k < 2 ^ 31 → ¬ y3 ≤ nI k → k < 20000 ∧ f j1 + k < f (j1 + 1) ∧ f j2 + k < f (j2 + 1) := by
        intro k hk g
        have e3 : y3 = nI (f (j2 + 1)) - nI (f j2) := by rw [hy3, ← hy1, e12, hy2]
        have g2 := g
        rw [e3, Int32.le_iff_toInt_le, zsubI (by omega) (by omega), nI_toInt hk] at g2
        rw [hy3, Int32.le_iff_toInt_le, zsubI (by omega) (by omega), nI_toInt hk] at g
        omega
      have key : ∀ (m k : Nat), k ≤ 20000 → 20000 - k < m → zm_Go E 0 0 40 [(0, .ref r), (1, .int (nI j1)), (2, .int (nI j2)), (3, .int y3), (4, .int (nI k))] [] h5 := by
        intro m
        induction m with
        | zero => intro k _ g; omega
        | succ m ih =>
          intro k hk hm
          refine B_X5_areSame_40 C Rt (Nat.le_refl 0) (Nat.le_refl 0) ⟨fun _ => ⟨by decide, rfl, _, rfl⟩, fun g => ?_⟩
          obtain ⟨g0, g1, g2⟩ := hlen k (by omega) g
          have in1 : vp_in (nI j1) 1001 := vp_in_nI (by omega) (by decide)
          have in2 : vp_in (nI j2) 1001 := vp_in_nI (by omega) (by decide)
          have cl1 : (nI j1).toNatClampNeg = j1 := nI_clamp (by omega)
          have cl2 : (nI j2).toNatClampNeg = j2 := nI_clamp (by omega)
          have in3 : vp_in (nI (f j1 + k)) 20000 := vp_in_nI (by omega) (by decide)
          have in4 : vp_in (nI (f j2 + k)) 20000 := vp_in_nI (by omega) (by decide)
          simp only [zm_gR, zm_ld, hr, hc, hs, in1, in2, cl1, cl2, nI_add, in3, in4, List.getElem?_cons_zero, List.getElem?_cons_succ, true_and]
          exact ⟨fun _ => ih (k + 1) (by omega) (by omega), fun _ => ⟨by decide, _, rfl⟩⟩
      exact key 20001 0 (by omega) (by omega)
    · exact ⟨_, rfl, fun _ => ⟨by decide, rfl, _, rfl⟩, fun z => absurd rfl z⟩
  · exact ⟨_, rfl, fun _ => ⟨by decide, rfl, _, rfl⟩, fun z => absurd rfl z⟩
/-! a place in bytes that are read: a Scan s over the array ca -/
def zhS (h : zm_H) (s ca : Nat) (at9 lim flt : Int32) : zm_H := zm_set h s (.inr (7, [.ref ca, .int at9, .int lim, .int flt]))
theorem zhS_s {h : zm_H} {s ca : Nat} {at9 lim flt : Int32} : zhS h s ca at9 lim flt s = some (.inr (7, [.ref ca, .int at9, .int lim, .int flt])) := zm_set_s _ _ _
theorem zhS_q {h : zm_H} {s ca q : Nat} {at9 lim flt : Int32} (hq : q ≠ s) : zhS h s ca at9 lim flt q = h q := zm_set_n hq
theorem zm_set_set {h : zm_H} {a : Nat} {e e' : va_E} : zm_set (zm_set h a e) a e' = zm_set h a e' := by
  funext q
  by_cases hq : q = a
  · subst hq
    rw [zm_set_s, zm_set_s]
  · rw [zm_set_n hq, zm_set_n hq, zm_set_n hq]
def poS (h : zm_H) (s ca : Nat) (lim : Int32) : zm_Po := fun v h' => v = none ∧ ∃ at9 flt, h' = zhS h s ca at9 lim flt
def poSi (h : zm_H) (s ca : Nat) (lim : Int32) : zm_Po := fun v h' => (∃ y : Int32, v = some (.int y)) ∧ ∃ at9 flt, h' = zhS h s ca at9 lim flt
def poSl (h : zm_H) (s ca : Nat) (lim : Int32) : zm_Po := fun v h' => (∃ y : Int64, v = some (.long y)) ∧ ∃ at9 flt, h' = zhS h s ca at9 lim flt
theorem k_X7_failed {K : zm_K} {h : zm_H} {s ca : Nat} {at9 lim flt : Int32} :
    zm_Ct K M_X7_failed [.ref s] (zhS h s ca at9 lim flt) (fun v h' => h' = zhS h s ca at9 lim flt ∧ ((flt = 0 ∧ v = some (.int (nI 0))) ∨ (¬ flt = 0 ∧ v = some (.int (nI 1))))) := by
  refine zm_meet (by decide) (Nat.le_of_ble_eq_true rfl) ?_
  intro E C Rt _
  refine B_X7_failed_0 C Rt (Nat.le_refl 0) (Nat.le_refl 0) ?_
  simp only [zm_gI, zhS_s, List.getElem?_cons_zero, List.getElem?_cons_succ, true_and]
  exact ⟨fun q => ⟨by decide, Or.inl ⟨q, trivial⟩⟩, fun q => ⟨by decide, Or.inr ⟨q, trivial⟩⟩⟩
theorem k_X7_fail {K : zm_K} {h : zm_H} {s ca : Nat} {at9 lim flt x : Int32} :
    zm_Ct K M_X7_fail [.ref s, .int x] (zhS h s ca at9 lim flt) (fun v h' => v = none ∧ h' = zhS h s ca at9 lim (if flt = 0 then x else flt)) := by
  refine zm_meet (by decide) (Nat.le_of_ble_eq_true rfl) ?_
  intro E C Rt _
  refine B_X7_fail_0 C Rt (Nat.le_refl 0) (Nat.le_refl 0) ?_
  simp only [zm_gI, zm_pf, zhS_s, List.getElem?_cons_zero, List.getElem?_cons_succ, List.set_cons_zero, List.set_cons_succ, List.length_cons, List.length_nil, true_and]
  refine ⟨fun q => by rw [if_neg q], fun q => ⟨by decide, ?_⟩⟩
  rw [if_pos q]
  exact zm_set_set
theorem k_X7_expectEnd {K : zm_K} {h : zm_H} {s ca : Nat} {at9 lim flt : Int32} :
    zm_Ct K M_X7_expectEnd [.ref s] (zhS h s ca at9 lim flt) (poS h s ca lim) := by
  refine zm_meet (by decide) (Nat.le_of_ble_eq_true rfl) ?_
  intro E C Rt _
  refine B_X7_expectEnd_0 C Rt (Nat.le_refl 0) (Nat.le_refl 0) ?_
  have hrc : zm_rc (zhS h s ca at9 lim flt) s 7 := by simp only [zm_rc, zhS_s]
  simp only [zm_gI, zhS_s, List.getElem?_cons_zero, List.getElem?_cons_succ, true_and]
  refine ⟨fun q => ⟨rfl, _, _, rfl⟩, fun q => ⟨hrc, _, k_X7_fail, fun v h' z => ?_⟩⟩
  obtain ⟨rfl, rfl⟩ := z
  exact ⟨rfl, rfl, _, _, rfl⟩
theorem k_X7_nextByte {K : zm_K} {h : zm_H} {s ca n : Nat} {t : Nat → Nat} {at9 lim flt : Int32} (hca : h ca = some (zB K n t)) (hn : n < 2 ^ 31) (hne : ca ≠ s) :
    zm_Ct K M_X7_nextByte [.ref s] (zhS h s ca at9 lim flt) (poSi h s ca lim) := by
  refine zm_meet (by decide) (Nat.le_of_ble_eq_true rfl) ?_
  intro E C Rt _
  refine B_X7_nextByte_0 C Rt (Nat.le_refl 0) (Nat.le_refl 0) ?_
  have hrc : zm_rc (zhS h s ca at9 lim flt) s 7 := by simp only [zm_rc, zhS_s]
  have hc : zhS h s ca at9 lim flt ca = some (.inl (K.2.2 0, n, .inl (fun j => sb_b (t j)))) := (zhS_q hne).trans hca
  have ff : zm_cv K M_X7_fail [.ref s, .int (nI 1)] (zhS h s ca at9 lim flt) (fun h1 => poSi h s ca lim (some (.int (nI 0))) h1) := by
    refine ⟨_, k_X7_fail, fun v h' z => ?_⟩
    obtain ⟨rfl, rfl⟩ := z
    exact ⟨rfl, ⟨_, rfl⟩, _, _, rfl⟩
  simp only [zm_gI, zhS_s, List.getElem?_cons_zero, List.getElem?_cons_succ, true_and]
  refine ⟨fun q => ⟨hrc, ff⟩, fun q => ⟨fun q2 => ⟨hrc, ff⟩, fun q2 => ?_⟩⟩
  simp only [zm_gR, zm_al, zm_ld, zm_pf, zhS_s, hc, List.getElem?_cons_zero, List.getElem?_cons_succ, List.set_cons_zero, List.set_cons_succ, List.length_cons, List.length_nil, true_and]
  refine ⟨fun q3 => ?_, fun q3 => ⟨hrc, ff⟩⟩
  obtain ⟨j, hj, e⟩ := zix q q3 hn
  subst e
  exact ⟨vp_in_nI hj hn, by decide, ⟨_, rfl⟩, _, _, zm_set_set⟩
