/-! the first call on a fresh object: the class -/
def poA (x : Int32) : zm_Po := fun r _ => r = some (.int x)
def a_add (x : Int32) : Int32 := if x < nI 1 then nI 0 else if nI 1000 < x then nI 0 else nI 1
def a_write (x : Int32) : Int32 := if x = nI 0 then nI 0 else if x = nI 1 then nI 2 else if x = nI 2 then nI 4 else if x = nI 3 then nI 2 else -1
def a_read (x y : Int32) : Int32 := if y < 0 then -1 else if y ≤ nI 1000 then (if x = nI 0 then (if y ≤ nI 0 then nI 0 else nI 1) else if x = nI 1 then nI 1 else if x = nI 2 then nI 1 else if x = nI 3 then nI 1 else -1) else -1
theorem ar1 {y : Int32} (g0 : ¬ y < 0) (g1 : y ≤ nI 1000) : a_read (nI 1) y = nI 1 := by
  rw [a_read, if_neg g0, if_pos g1, if_neg (show ¬ nI 1 = nI 0 by decide), if_pos rfl]
theorem ar2 {y : Int32} (g0 : ¬ y < 0) (g1 : y ≤ nI 1000) : a_read (nI 2) y = nI 1 := by
  rw [a_read, if_neg g0, if_pos g1, if_neg (show ¬ nI 2 = nI 0 by decide), if_neg (show ¬ nI 2 = nI 1 by decide), if_pos rfl]
theorem ar3 {y : Int32} (g0 : ¬ y < 0) (g1 : y ≤ nI 1000) : a_read (nI 3) y = nI 1 := by
  rw [a_read, if_neg g0, if_pos g1, if_neg (show ¬ nI 3 = nI 0 by decide), if_neg (show ¬ nI 3 = nI 1 by decide), if_neg (show ¬ nI 3 = nI 2 by decide), if_pos rfl]
theorem zm_set_id {h : zm_H} {a : Nat} {e : va_E} (he : h a = some e) : zm_set h a e = h := by
  funext q
  by_cases z : q = a
  · subst z
    rw [zm_set_s, he]
  · rw [zm_set_n z]
section ZF1
variable {K : zm_K} {ad : Nat → Nat} {h : zm_H}
theorem zF.row (X : zX K ad false false 0 h) (F : zF K ad h) : ∃ t, zR K h (ad 7) (ad 8) (ad 9) 0 (fun _ => 0) t := by
  obtain ⟨_, h8, t, rfl⟩ := X.2 8 (by decide)
  exact ⟨t, F.2.2.1, h8, F.2.2.2, Nat.zero_le _, fun _ => Nat.zero_le _⟩
theorem f_size (X : zX K ad false false 0 h) (F : zF K ad h) : zm_Ct K M_X8_size [.ref (ad 0)] h (poA (nI 0)) := by
  refine zm_meet (by decide) (Nat.le_of_ble_eq_true rfl) ?_
  intro E C Rt _
  refine B_X8_size_0 C Rt (Nat.le_refl 0) (Nat.le_refl 0) (t_85 X ?_)
  have h7 : h (ad (zRo false)) = some (.inr (5, [.ref (ad 8), .ref (ad 9), .int (nI 0)])) := F.2.2.1
  simp only [zm_gI, h7, List.getElem?_cons_zero, List.getElem?_cons_succ, true_and]
  exact rfl
theorem f_length (X : zX K ad false false 0 h) (F : zF K ad h) {x : Int32} : zm_Ct K M_X8_length [.ref (ad 0), .int x] h (poA (-1)) := by
  refine zm_meet (by decide) (Nat.le_of_ble_eq_true rfl) ?_
  intro E C Rt _
  obtain ⟨t, R⟩ := F.row X
  refine B_X8_length_0 C Rt (Nat.le_refl 0) (Nat.le_refl 0) (t_85 X ⟨t_wrc X (zRo_v false), _, k_X5_has R, fun r h' q => ?_⟩)
  obtain ⟨rfl, q⟩ := q
  rcases q with ⟨j, hj, _, _⟩ | ⟨_, rfl⟩
  · exact absurd hj (Nat.not_lt_zero j)
  · exact ⟨_, rfl, fun _ => rfl, fun z => absurd rfl z⟩
theorem f_byteOf (X : zX K ad false false 0 h) (F : zF K ad h) {x y : Int32} : zm_Ct K M_X8_byteOf [.ref (ad 0), .int x, .int y] h (poA (-1)) := by
  refine zm_meet (by decide) (Nat.le_of_ble_eq_true rfl) ?_
  intro E C Rt _
  obtain ⟨t, R⟩ := F.row X
  refine B_X8_byteOf_0 C Rt (Nat.le_refl 0) (Nat.le_refl 0) (t_85 X ⟨t_wrc X (zRo_v false), _, k_X5_has R, fun r h' q => ?_⟩)
  obtain ⟨rfl, q⟩ := q
  rcases q with ⟨j, hj, _, _⟩ | ⟨_, rfl⟩
  · exact absurd hj (Nat.not_lt_zero j)
  · exact ⟨_, rfl, fun _ => rfl, fun z => absurd rfl z⟩
theorem f_output (X : zX K ad false false 0 h) (F : zF K ad h) {x : Int32} : zm_Ct K M_X8_output [.ref (ad 0), .int x] h (poA (-1)) := by
  refine zm_meet (by decide) (Nat.le_of_ble_eq_true rfl) ?_
  intro E C Rt _
  refine B_X8_output_0 C Rt (Nat.le_refl 0) (Nat.le_refl 0) ⟨fun _ => rfl, fun g0 => t_80 X ?_⟩
  simp only [zm_gI, F.1, List.getElem?_cons_zero, List.getElem?_cons_succ, true_and]
  exact ⟨fun g1 => absurd g1 g0, fun _ => rfl⟩
theorem f_add (X : zX K ad false false 0 h) (F : zF K ad h) {x : Int32} : zm_Ct K M_X8_add [.ref (ad 0), .int x] h (poA (a_add x)) := by
  refine zm_meet (by decide) (Nat.le_of_ble_eq_true rfl) ?_
  intro E C Rt _
  obtain ⟨t, R⟩ := F.row X
  have gcl : ∀ {h : zm_H} (X : zX K ad false false 0 h) {F : Nat → Prop}, F (ad (zIp false + 1)) → zm_gR h (ad (zIp false)) 0 0 F := fun {h} X {F} hF => by
    obtain ⟨s1, t1, hs1, e1, e2⟩ := X.inp (zIp_u false)
    simp only [zm_gR, e1, List.getElem?_cons_zero, List.getElem?_cons_succ, true_and]
    exact hF
  have gsz : ∀ {h : zm_H} (X : zX K ad false false 0 h) {F : Int32 → Prop}, (∀ y, F y) → zm_gI h (ad (zIp false)) 0 1 F := fun {h} X {F} hF => by
    obtain ⟨s1, t1, hs1, e1, e2⟩ := X.inp (zIp_u false)
    simp only [zm_gI, e1, List.getElem?_cons_zero, List.getElem?_cons_succ, true_and]
    exact hF _
  have gs0 : ∀ {F9 : Int32 → Prop}, F9 (nI 0) → zm_gI h (ad (zIp false)) 0 1 F9 := fun {F9} hF => by
    have h5 : h (ad (zIp false)) = some (.inr (0, [.ref (ad 6), .int (nI 0)])) := F.2.1
    simp only [zm_gI, h5, List.getElem?_cons_zero, List.getElem?_cons_succ, true_and]
    exact hF
  have gc0 : ∀ {F9 : Int32 → Prop}, F9 (nI 0) → zm_gI h (ad (zRo false)) 5 2 F9 := fun {F9} hF => by
    have h7 : h (ad (zRo false)) = some (.inr (5, [.ref (ad 8), .ref (ad 9), .int (nI 0)])) := F.2.2.1
    simp only [zm_gI, h7, List.getElem?_cons_zero, List.getElem?_cons_succ, true_and]
    exact hF
  have e9 : nI 1000 - nI 0 = nI 1000 := by decide
  have no1 : x < nI 1 → poA (a_add x) (some (.int (nI 0))) h := fun w => by
    show some (Value.int (nI 0)) = some (Value.int (a_add x))
    rw [a_add, if_pos w]
  have no2 : ¬ x < nI 1 → nI 1000 < x → poA (a_add x) (some (.int (nI 0))) h := fun w w2 => by
    show some (Value.int (nI 0)) = some (Value.int (a_add x))
    rw [a_add, if_neg w, if_pos w2]
  refine B_X8_add_0 C Rt (Nat.le_refl 0) (Nat.le_refl 0) ⟨fun g => ⟨rfl, no1 g⟩, fun g1 => t_85 X (gc0 ⟨fun g => ⟨rfl, no2 g1 (by rw [← e9]; exact g)⟩, fun g2 => t_84 X (gs0 ⟨fun _ => t_84 X (gs0 (t_85 X ⟨t_wrc X (zRo_v false), _, k_X5_total R, fun r h' q => ?_⟩)), fun z => absurd (by decide) z⟩)⟩)⟩
  obtain ⟨rfl, rfl⟩ := q
  refine ⟨_, rfl, fun _ => ?_, fun z => absurd ?_ z⟩
  · have gx : ¬ x < 0 := fun w => g1 (by
      rw [Int32.lt_iff_toInt_lt] at w ⊢
      have e0 : (0 : Int32).toInt = 0 := rfl
      have e1 : (nI 1).toInt = 1 := by decide
      omega)
    have g3 : ¬ nI 1000 < x := by
      rw [← e9]
      exact g2
    have ok : ∀ h9, poA (a_add x) (some (.int (nI 1))) h9 := fun h9 => by
      show some (Value.int (nI 1)) = some (Value.int (a_add x))
      rw [a_add, if_neg g1, if_neg g3]
    obtain ⟨n, hn0, rfl⟩ := nI_of gx
    have hn : n ≤ 1000 := by
      rcases Nat.lt_or_ge 1000 n with w | w
      · exact absurd (nI_lt w hn0) g3
      · exact w
    suffices key : ∀ (m k : Nat) (h9 : zm_H), zX K ad false false 0 h9 → k ≤ n → n - k < m → zm_Go E 0 0 62 [(0, .ref (ad 0)), (1, .int (nI n)), (2, .int (nI k))] [] h9 from key 1001 0 _ X (by omega) (by omega)
    intro m
    induction m with
    | zero => intro k h9 _ _ z; omega
    | succ m ih =>
      intro k h9 X9 hk hm
      refine B_X8_add_62 C Rt (Nat.le_refl 0) (Nat.le_refl 0) ⟨fun _ => ⟨rfl, ok h9⟩, fun q => ?_⟩
      have hk2 : k < n := by
        rcases Nat.lt_or_ge k n with w | w
        · exact w
        · exact absurd (nI_le w (by omega)) q
      refine t_85 X9 (t_84 X9 (gcl X9 (t_84 X9 (gsz X9 fun y => t_app X9 (zRo_v false) (by simp [zIp]) fun h' X' => ?_))))
      rw [nI_add]
      exact ih (k + 1) h' X' (by omega) (by omega)
  · have e : x * nI 0 = nI 0 := Int32.mul_zero
    rw [e]
    decide
end ZF1
section ZF2
/-! writing an empty row -/
theorem g_putV1 {K : zm_K} {h : zm_H} {b a n : Nat} {s : (Nat → Nat) × Nat} {x : Int64} (hab : a ≠ b) (hn : n < 2 ^ 31) (hs : s.2 ≤ n) (hx : lg_cmp ((x.toUInt64 >>> ((nI 7).toInt64.toUInt64 &&& Int64.toUInt64 63)).toInt64) (lN 0) = 0) :
    zm_Ct K M_X0_putVarint [.ref b, .long x] (zhB K h b a n s) (fun r h' => r = none ∧ ∃ c, h' = zhB K h b a n (zpb n s c)) := by
  refine zm_meet (by decide) (Nat.le_of_ble_eq_true rfl) ?_
  intro E C Rt _
  exact B_X0_putVarint_0 C Rt (B_X0_putVarint_5 C Rt (Nat.le_refl 0) (Nat.le_refl 0) ⟨fun c => absurd c (by decide), fun _ => ⟨fun _ => w_X0_put hab hn hs ⟨rfl, _, rfl⟩, fun z => absurd hx z⟩⟩)
theorem g_putAll {K : zm_K} {h : zm_H} {b a n src n2 m : Nat} {t2 : Nat → Nat} {s : (Nat → Nat) × Nat} (hab : a ≠ b) (hn : n < 2 ^ 31) (hsa : src ≠ a) (hsb : src ≠ b) (hsrc : h src = some (zB K n2 t2)) (hn2 : n2 < 2 ^ 31) (hm : m ≤ n2) (hsm : s.2 + m ≤ n) :
    zm_Ct K M_X0_putAll [.ref b, .ref src, .int (nI 0), .int (nI m)] (zhB K h b a n s) (fun r h' => r = none ∧ ∃ t', h' = zhB K h b a n (t', s.2 + m)) := by
  refine zm_meet (by decide) (Nat.le_of_ble_eq_true rfl) ?_
  intro E C Rt _
  refine B_X0_putAll_0 C Rt (Nat.le_refl 0) (Nat.le_refl 0) ?_
  have ha : zhB K h b a n s a = some (.inl (K.2.2 0, n, .inl (fun j => sb_b (s.1 j)))) := zhB_a hab
  have hr : zhB K h b a n s src = some (.inl (K.2.2 0, n2, .inl (fun j => sb_b (t2 j)))) := (zhB_q hsb hsa).trans hsrc
  have c1 : ¬ nI 0 < 0 := by decide
  have c2 : ¬ nI m < 0 := nI_pos (by omega)
  refine ⟨fun z => absurd z c1, fun _ => ⟨fun z => absurd z c2, fun _ => ?_⟩⟩
  simp only [zm_gI, zm_gR, zm_al, zm_cp, zm_pf, zhB_b, ha, hr, zm_set_n hab.symm, List.getElem?_cons_zero, List.getElem?_cons_succ, List.set_cons_zero, List.set_cons_succ, List.length_cons, List.length_nil, true_and]
  have q3 : nI m ≤ nI n2 - nI 0 := (zle_sub (by omega) hn2 (by decide)).mpr (by omega)
  have q4 : nI m ≤ nI n - nI s.2 := (zle_sub (by omega) hn (by omega)).mpr (by omega)
  refine ⟨fun _ => ⟨fun _ => ?_, fun z => absurd q4 z⟩, fun z => absurd q3 z⟩
  rw [nI_clamp (show 0 < 2 ^ 31 by decide), nI_clamp (show m < 2 ^ 31 by omega), nI_clamp (show s.2 < 2 ^ 31 by omega), zcpy, nI_add]
  refine ⟨c1, nI_pos (by omega), c2, by omega, by omega, fun i _ => sb_fitB _, by decide, va_cpy t2 s.1 0 s.2 m, ?_⟩
  exact zhB_zhB (s' := (va_cpy t2 s.1 0 s.2 m, s.2 + m))
theorem g_writeOn {K : zm_K} {h : zm_H} {b a n cd x y : Nat} {s : (Nat → Nat) × Nat} (hab : a ≠ b) (hn : n < 2 ^ 31) (hs : s.2 ≤ n) (hcb : cd ≠ b) (hca : cd ≠ a) (hc : h cd = some (.inr (1, [.ref x, .ref y, .int (nI 0)]))) :
    zm_Ct K M_X1_writeOn [.ref cd, .ref b] (zhB K h b a n s) (fun r h' => r = none ∧ ∃ c, h' = zhB K h b a n (zpb n s c)) := by
  refine zm_meet (by decide) (Nat.le_of_ble_eq_true rfl) ?_
  intro E C Rt _
  have gc : ∀ (s' : (Nat → Nat) × Nat) {F : Int32 → Prop}, F (nI 0) → zm_gI (zhB K h b a n s') cd 1 2 F := fun s' {F} hF => by
    have e : zhB K h b a n s' cd = some (.inr (1, [.ref x, .ref y, .int (nI 0)])) := (zhB_q hcb hca).trans hc
    simp only [zm_gI, e, List.getElem?_cons_zero, List.getElem?_cons_succ, true_and]
    exact hF
  refine B_X1_writeOn_0 C Rt (Nat.le_refl 0) (Nat.le_refl 0) (gc s ⟨by simp only [zm_rc, zhB_b], _, g_putV1 hab hn hs (by decide +kernel), fun r h' q => ?_⟩)
  obtain ⟨rfl, c, rfl⟩ := q
  exact ⟨rfl, gc _ ⟨fun _ => B_X1_writeOn_31 C Rt (Nat.le_refl 0) (Nat.le_refl 0) (gc _ ⟨fun _ => ⟨rfl, c, rfl⟩, fun z => absurd (by decide) z⟩), fun z => absurd (by decide) z⟩⟩
variable {K : zm_K} {ad : Nat → Nat} {sw rw : Bool} {T : Nat} {h : zm_H}
theorem g_putCode (X : zX K ad sw rw T h) {cd s : Nat} (hk : zC cd) (hc : h (ad cd) = some (.inr (1, [.ref (ad (cd + 1)), .ref (ad (cd + 2)), .int (nI 0)]))) (ho : h (ad 1) = some (.inr (0, [.ref (ad 2), .int (nI s)]))) (hs : s + 2 ≤ 24000) :
    zm_Ct K M_X3_putCode [.ref (ad 21), .ref (ad cd), .ref (ad 1)] h (fun r h' => r = none ∧ zX K ad sw rw T h' ∧ h' (ad 1) = some (.inr (0, [.ref (ad 2), .int (nI (s + 2))])) ∧ ∀ k, k < 32 → k ≠ 1 → k ≠ 2 → k ≠ 25 → k ≠ 26 → h' (ad k) = h (ad k)) := by
  refine zm_meet (by decide) (Nat.le_of_ble_eq_true rfl) ?_
  intro E C Rt _
  have cd32 : cd < 32 ∧ cd ≠ 25 ∧ cd ≠ 26 := by rcases hk with rfl | rfl <;> decide
  obtain ⟨n26, -, s0, t0, hs0, e25, e26, -, cl⟩ := X.bytes zW25
  replace n26 : ad 26 ≠ ad 25 := n26
  replace e25 : h (ad 25) = some (.inr (0, [.ref (ad 26), .int (nI s0)])) := e25
  replace e26 : h (ad 26) = some (zB K 2000 t0) := e26
  replace cl : ∀ s' : (Nat → Nat) × Nat, s'.2 ≤ 2000 → zX K ad sw rw T (zhB K h (ad 25) (ad 26) 2000 s') := cl
  have eh1 : zm_set h (ad 25) (.inr (0, [.ref (ad 26), .int (nI 0)])) = zhB K h (ad 25) (ad 26) 2000 (t0, 0) := by
    funext q
    by_cases q1 : q = ad 25
    · subst q1
      rw [zhB_b, zm_set_s]
    · by_cases q2 : q = ad 26
      · subst q2
        rw [zhB_a q1, zm_set_n q1, e26]
      · rw [zhB_q q1 q2, zm_set_n q1]
  have X1 := cl (t0, 0) (Nat.zero_le _)
  refine B_X3_putCode_0 C Rt (Nat.le_refl 0) (Nat.le_refl 0) (t_f4 X ?_)
  simp only [zm_pf, e25, List.set_cons_zero, List.set_cons_succ, List.length_cons, List.length_nil, true_and]
  refine ⟨by decide, ?_⟩
  rw [eh1]
  refine t_f4 X1 ⟨t_crc X1 hk, _, g_writeOn (K := K) (h := h) (b := ad 25) (a := ad 26) (n := 2000) (s := (t0, 0)) (cd := ad cd) n26 (by decide) (Nat.zero_le _) (X.ne cd32.1 (by decide) cd32.2.1) (X.ne cd32.1 (by decide) cd32.2.2) hc, fun r h' q => ?_⟩
  obtain ⟨rfl, c, rfl⟩ := q
  have e9 : zpb 2000 (t0, 0) c = (zup t0 0 c, 1) := if_pos (show 0 < 2000 by decide)
  rw [e9]
  have X2 := cl (zup t0 0 c, 1) (show 1 ≤ 2000 by decide)
  have f25 : zhB K h (ad 25) (ad 26) 2000 (zup t0 0 c, 1) (ad 25) = some (.inr (0, [.ref (ad 26), .int (nI 1)])) := zhB_b
  have f26 : zhB K h (ad 25) (ad 26) 2000 (zup t0 0 c, 1) (ad 26) = some (zB K 2000 (zup t0 0 c)) := zhB_a n26
  have fq : ∀ k, k < 32 → k ≠ 25 → k ≠ 26 → zhB K h (ad 25) (ad 26) 2000 (zup t0 0 c, 1) (ad k) = h (ad k) := fun k hk a b => zhB_q (X.ne hk (by decide) a) (X.ne hk (by decide) b)
  generalize zhB K h (ad 25) (ad 26) 2000 (zup t0 0 c, 1) = h2 at X2 f25 f26 fq
  have o1 : h2 (ad 1) = some (.inr (0, [.ref (ad 2), .int (nI s)])) := (fq 1 (by decide) (by decide) (by decide)).trans ho
  obtain ⟨_, e2, t1, rfl⟩ := X2.2 2 (by decide)
  have eid2 := zhB_id o1 e2
  obtain ⟨-, -, -, -, -, -, -, -, cl2⟩ := X2.bytes zW1
  replace cl2 : ∀ s' : (Nat → Nat) × Nat, s'.2 ≤ 24000 → zX K ad sw rw T (zhB K h2 (ad 1) (ad 2) 24000 s') := cl2
  have n21 : ad 2 ≠ ad 1 := X2.ne (by decide) (by decide) (by decide)
  refine ⟨rfl, t_f4 X2 ?_⟩
  simp only [zm_gI, f25, List.getElem?_cons_zero, List.getElem?_cons_succ, true_and]
  have P := g_putV1 (K := K) (h := h2) (b := ad 1) (a := ad 2) (n := 24000) (s := (t1, s)) (x := (nI 1).toInt64) n21 (by decide) (show s ≤ 24000 by omega) (by decide +kernel)
  rw [eid2] at P
  refine ⟨by simp only [zm_rc, o1], _, P, fun r h' q => ?_⟩
  obtain ⟨rfl, c', rfl⟩ := q
  have e8 : zpb 24000 (t1, s) c' = (zup t1 s c', s + 1) := if_pos (show s < 24000 by omega)
  rw [e8]
  have X3 := cl2 (zup t1 s c', s + 1) (show s + 1 ≤ 24000 by omega)
  have g25 : zhB K h2 (ad 1) (ad 2) 24000 (zup t1 s c', s + 1) (ad 25) = some (.inr (0, [.ref (ad 26), .int (nI 1)])) := (zhB_q (X2.ne (by decide) (by decide) (by decide)) (X2.ne (by decide) (by decide) (by decide))).trans f25
  refine ⟨rfl, t_f4 X3 ?_⟩
  simp only [zm_gR, zm_gI, g25, X3.fw, List.getElem?_cons_zero, List.getElem?_cons_succ, true_and]
  have Q := g_putAll (K := K) (h := h2) (b := ad 1) (a := ad 2) (n := 24000) (src := ad 26) (n2 := 2000) (m := 1) (t2 := zup t0 0 c) (s := (zup t1 s c', s + 1)) n21 (by decide) (X2.ne (by decide) (by decide) (by decide)) (X2.ne (by decide) (by decide) (by decide)) f26 (by decide) (by decide) (show s + 1 + 1 ≤ 24000 by omega)
  refine ⟨by simp only [zm_rc, zhB_b], _, Q, fun r h' q => ?_⟩
  obtain ⟨rfl, t', rfl⟩ := q
  exact ⟨rfl, cl2 (t', s + 1 + 1) (show s + 1 + 1 ≤ 24000 by omega), zhB_b, fun k hk a b c d => (zhB_q (X2.ne hk (by decide) a) (X2.ne hk (by decide) b)).trans (fq k hk c d)⟩
def poW (K : zm_K) (ad : Nat → Nat) (n : Nat) : zm_Po := fun r h' => r = none ∧ zX K ad false false 0 h' ∧ h' (ad 1) = some (.inr (0, [.ref (ad 2), .int (nI n)]))
theorem g_plain (X : zX K ad false false 0 h) (F : zF K ad h) : zm_Ct K M_X3_plain [.ref (ad 21), .ref (ad 7), .ref (ad 1)] h (poW K ad 0) := by
  refine zm_meet (by decide) (Nat.le_of_ble_eq_true rfl) ?_
  intro E C Rt _
  refine B_X3_plain_0 C Rt (B_X3_plain_2 C Rt (Nat.le_refl 0) (Nat.le_refl 0) ?_)
  simp only [zm_gI, F.2.2.1, List.getElem?_cons_zero, List.getElem?_cons_succ, true_and]
  exact ⟨fun _ => ⟨rfl, X, F.1⟩, fun z => absurd (by decide) z⟩
theorem zF.set (X : zX K ad false false 0 h) (F : zF K ad h) {k : Nat} {e : va_E} (hk : k < 32) (h1 : k ≠ 1) (h5 : k ≠ 5) (h7 : k ≠ 7) (h9 : k ≠ 9) : zF K ad (zm_set h (ad k) e) :=
  ⟨(zm_set_n (X.ne (by decide) hk h1.symm)).trans F.1, (zm_set_n (X.ne (by decide) hk h5.symm)).trans F.2.1, (zm_set_n (X.ne (by decide) hk h7.symm)).trans F.2.2.1, (zm_set_n (X.ne (by decide) hk h9.symm)).trans F.2.2.2⟩
theorem g_lengths (X : zX K ad false false 0 h) (F : zF K ad h) : zm_Ct K M_X3_lengths [.ref (ad 21), .ref (ad 7), .ref (ad 1)] h (poW K ad 2) := by
  refine zm_meet (by decide) (Nat.le_of_ble_eq_true rfl) ?_
  intro E C Rt _
  obtain ⟨c, f, w, hc, e13, e14, e15, cl13, -, -⟩ := X.code zC13
  refine B_X3_lengths_0 C Rt (t_f0 X ?_)
  simp only [zm_gI, zm_pf, F.2.2.1, e13, List.getElem?_cons_zero, List.getElem?_cons_succ, List.set_cons_zero, List.set_cons_succ, List.length_cons, List.length_nil, true_and]
  refine ⟨by decide, ?_⟩
  have X1 := cl13 0 (Nat.zero_le _)
  have F1 := F.set X (k := 13) (e := .inr (1, [.ref (ad (13 + 1)), .ref (ad (13 + 2)), .int (nI 0)])) (by decide) (by decide) (by decide) (by decide) (by decide)
  have c1 : zm_set h (ad 13) (.inr (1, [.ref (ad (13 + 1)), .ref (ad (13 + 2)), .int (nI 0)])) (ad 13) = some (.inr (1, [.ref (ad (13 + 1)), .ref (ad (13 + 2)), .int (nI 0)])) := zm_set_s _ _ _
  generalize zm_set h (ad 13) (.inr (1, [.ref (ad (13 + 1)), .ref (ad (13 + 2)), .int (nI 0)])) = h1 at X1 F1 c1
  refine B_X3_lengths_13 C Rt (Nat.le_refl 0) (Nat.le_refl 0) ?_
  simp only [zm_gI, F1.2.2.1, List.getElem?_cons_zero, List.getElem?_cons_succ, true_and]
  refine ⟨fun _ => t_f0 X1 ⟨t_frc X1, _, g_putCode X1 zC13 c1 F1.1 (by decide), fun r h2 q => ?_⟩, fun z => absurd (by decide) z⟩
  obtain ⟨rfl, X2, o2, k2⟩ := q
  obtain ⟨_, e8, t, rfl⟩ := X2.2 8 (by decide)
  have R2 : zR K h2 (ad 7) (ad 8) (ad 9) 0 (fun _ => 0) t := ⟨(k2 7 (by decide) (by decide) (by decide) (by decide) (by decide)).trans F1.2.2.1, e8, (k2 9 (by decide) (by decide) (by decide) (by decide) (by decide)).trans F1.2.2.2, Nat.zero_le _, fun _ => Nat.zero_le _⟩
  obtain ⟨_, e2, t1, rfl⟩ := X2.2 2 (by decide)
  obtain ⟨-, -, -, -, -, -, -, -, cl2⟩ := X2.bytes zW1
  replace cl2 : ∀ s' : (Nat → Nat) × Nat, s'.2 ≤ 24000 → zX K ad false false 0 (zhB K h2 (ad 1) (ad 2) 24000 s') := cl2
  refine ⟨rfl, t_wbG X2 (r := 7) (Or.inl rfl) ⟨t_wrc X2 (r := 7) (Or.inl rfl), _, k_X5_total R2, fun r h' q => ?_⟩⟩
  obtain ⟨rfl, rfl⟩ := q
  have Q := g_putAll (K := K) (h := h') (b := ad 1) (a := ad 2) (n := 24000) (src := ad 8) (n2 := 20000) (m := 0) (t2 := t) (s := (t1, 2)) (X2.ne (by decide) (by decide) (by decide)) (by decide) (X2.ne (by decide) (by decide) (by decide)) (X2.ne (by decide) (by decide) (by decide)) e8 (by decide) (by decide) (show 2 + 0 ≤ 24000 by decide)
  rw [zhB_id o2 e2] at Q
  refine ⟨_, rfl, by simp only [zm_rc, o2], _, Q, fun r h' q => ?_⟩
  obtain ⟨rfl, t', rfl⟩ := q
  exact ⟨rfl, rfl, cl2 (t', 2 + 0) (show 2 + 0 ≤ 24000 by decide), zhB_b⟩
theorem g_front (X : zX K ad false false 0 h) (F : zF K ad h) : zm_Ct K M_X3_front [.ref (ad 21), .ref (ad 7), .ref (ad 1)] h (poW K ad 4) := by
  refine zm_meet (by decide) (Nat.le_of_ble_eq_true rfl) ?_
  intro E C Rt _
  obtain ⟨c, f, w, hc, e13, e14, e15, cl13, -, -⟩ := X.code zC13
  refine B_X3_front_0 C Rt (t_f0 X ?_)
  simp only [zm_gI, zm_pf, F.2.2.1, e13, List.getElem?_cons_zero, List.getElem?_cons_succ, List.set_cons_zero, List.set_cons_succ, List.length_cons, List.length_nil, true_and]
  refine ⟨by decide, ?_⟩
  have X1 := cl13 0 (Nat.zero_le _)
  have F1 := F.set X (k := 13) (e := .inr (1, [.ref (ad (13 + 1)), .ref (ad (13 + 2)), .int (nI 0)])) (by decide) (by decide) (by decide) (by decide) (by decide)
  have c1 : zm_set h (ad 13) (.inr (1, [.ref (ad (13 + 1)), .ref (ad (13 + 2)), .int (nI 0)])) (ad 13) = some (.inr (1, [.ref (ad (13 + 1)), .ref (ad (13 + 2)), .int (nI 0)])) := zm_set_s _ _ _
  generalize zm_set h (ad 13) (.inr (1, [.ref (ad (13 + 1)), .ref (ad (13 + 2)), .int (nI 0)])) = h1 at X1 F1 c1
  refine t_f1 X1 ?_
  obtain ⟨c', f', w', hc', e16, e17, e18, cl16, -, -⟩ := X1.code zC16
  simp only [F1.2.2.1, e16, List.getElem?_cons_zero, List.getElem?_cons_succ, List.set_cons_zero, List.set_cons_succ, List.length_cons, List.length_nil, true_and]
  refine ⟨by decide, ?_⟩
  have X2 := cl16 0 (Nat.zero_le _)
  have F2 := F1.set X1 (k := 16) (e := .inr (1, [.ref (ad (16 + 1)), .ref (ad (16 + 2)), .int (nI 0)])) (by decide) (by decide) (by decide) (by decide) (by decide)
  have c2 : zm_set h1 (ad 16) (.inr (1, [.ref (ad (16 + 1)), .ref (ad (16 + 2)), .int (nI 0)])) (ad 16) = some (.inr (1, [.ref (ad (16 + 1)), .ref (ad (16 + 2)), .int (nI 0)])) := zm_set_s _ _ _
  have c1' : zm_set h1 (ad 16) (.inr (1, [.ref (ad (16 + 1)), .ref (ad (16 + 2)), .int (nI 0)])) (ad 13) = some (.inr (1, [.ref (ad (13 + 1)), .ref (ad (13 + 2)), .int (nI 0)])) := (zm_set_n (X1.ne (by decide) (by decide) (by decide))).trans c1
  generalize zm_set h1 (ad 16) (.inr (1, [.ref (ad (16 + 1)), .ref (ad (16 + 2)), .int (nI 0)])) = h2 at X2 F2 c2 c1'
  refine B_X3_front_24 C Rt (Nat.le_refl 0) (Nat.le_refl 0) ?_
  simp only [zm_gI, F2.2.2.1, List.getElem?_cons_zero, List.getElem?_cons_succ, true_and]
  refine ⟨fun _ => t_f0 X2 ⟨t_frc X2, _, g_putCode X2 zC13 c1' F2.1 (by decide), fun r h3 q => ?_⟩, fun z => absurd (by decide) z⟩
  obtain ⟨rfl, X3, o3, k3⟩ := q
  refine ⟨rfl, t_f1 X3 ⟨t_frc X3, _, g_putCode X3 zC16 ((k3 16 (by decide) (by decide) (by decide) (by decide) (by decide)).trans c2) o3 (by decide), fun r h4 q => ?_⟩⟩
  obtain ⟨rfl, X4, o4, k4⟩ := q
  refine ⟨rfl, B_X3_front_95 C Rt (Nat.le_refl 0) (Nat.le_refl 0) ?_⟩
  have h7 := (k4 7 (by decide) (by decide) (by decide) (by decide) (by decide)).trans ((k3 7 (by decide) (by decide) (by decide) (by decide) (by decide)).trans F2.2.2.1)
  simp only [zm_gI, h7, List.getElem?_cons_zero, List.getElem?_cons_succ, true_and]
  exact ⟨fun _ => ⟨rfl, X4, o4⟩, fun z => absurd (by decide) z⟩
theorem g_empty (X : zX K ad sw rw T h) : zm_Ct K M_X4_empty [.ref (ad 22)] h (fun r h' => r = none ∧ zX K ad sw rw T h' ∧ h' (ad 22) = some (.inr (4, [.ref (ad 23), .ref (ad 24), .int (nI 0)])) ∧ ∀ k, k < 32 → k ≠ 22 → k ≠ 23 → h' (ad k) = h (ad k)) := by
  refine zm_meet (by decide) (Nat.le_of_ble_eq_true rfl) ?_
  intro E C Rt _
  have key : ∀ (m i : Nat) (h9 : zm_H), zX K ad sw rw T h9 → h9 (ad 22) = some (.inr (4, [.ref (ad 23), .ref (ad 24), .int (nI 0)])) → (∀ k, k < 32 → k ≠ 22 → k ≠ 23 → h9 (ad k) = h (ad k)) → i ≤ 2048 → 2048 < m + i → zm_Go E 0 0 7 [(0, .ref (ad 22)), (1, .int (nI i))] [] h9 := by
    intro m
    induction m with
    | zero => intro i h9 _ _ _ h1 h2; omega
    | succ m ih =>
      intro i h9 X9 c9 k9 h1 h2
      refine B_X4_empty_7 C Rt (Nat.le_refl 0) (Nat.le_refl 0) ⟨fun _ => ⟨rfl, X9, c9, k9⟩, fun g => ?_⟩
      have g2 := zlt (by omega) g
      rw [nI_add]
      refine t_xsG X9 ?_
      obtain ⟨c, f, g, hc, hf, hg, e22, e23, e24⟩ := X9.lex
      unfold zI at e23
      simp only [zm_sI, e23, true_and]
      refine ⟨vp_in_nI g2 (by decide), ih (i + 1) _ (X9.set 23 (by decide) ⟨zup f (nI i).toNatClampNeg 0, zup_le hf (by omega), ?_⟩) ((zm_set_n (X9.ne (by decide) (by decide) (by decide))).trans c9) (fun k hk a b => (zm_set_n (X9.ne hk (by decide) b)).trans (k9 k hk a b)) (by omega) (by omega)⟩
      rw [zup_nI]
      rfl
  obtain ⟨c, f, g, hc, hf, hg, e22, e23, e24⟩ := X.lex
  refine B_X4_empty_0 C Rt ?_
  simp only [zm_pf, e22, List.set_cons_zero, List.set_cons_succ, List.length_cons, List.length_nil, true_and]
  exact ⟨by decide, key 2049 0 _ (X.set 22 (by decide) ⟨0, Nat.zero_le _, rfl⟩) (zm_set_s _ _ _) (fun k hk a b => zm_set_n (X.ne hk (by decide) a)) (by omega) (by omega)⟩
theorem g_bitsOf {x : Int64} (hx : lg_cmp ((x.toUInt64 >>> ((nI 0).toInt64.toUInt64 &&& Int64.toUInt64 63)).toInt64) (lN 0) = 0) : zm_Ct K M_X8_bitsOf [.long x] h (fun r h' => h' = h ∧ r = some (.int (nI 0))) := by
  refine zm_meet (by decide) (Nat.le_of_ble_eq_true rfl) ?_
  intro E C Rt _
  exact B_X8_bitsOf_0 C Rt (B_X8_bitsOf_2 C Rt (Nat.le_refl 0) (Nat.le_refl 0) ⟨fun z => absurd z (by decide), fun _ => ⟨fun _ => ⟨rfl, rfl⟩, fun z => absurd hx z⟩⟩)
theorem g_runs {a1 : Nat} {x : Int32} (hr : zRn ad h 0) : zm_Ct K M_X6_writeOn [.ref (ad 19), .ref a1, .int x] h (fun r h' => r = none ∧ h' = h) := by
  refine zm_meet (by decide) (Nat.le_of_ble_eq_true rfl) ?_
  intro E C Rt _
  exact B_X6_writeOn_0 C Rt (B_X6_writeOn_5 C Rt (Nat.le_refl 0) (Nat.le_refl 0) (t_rcGx hr ⟨fun _ => ⟨rfl, rfl⟩, fun z => absurd (by decide) z⟩))
theorem g_dictionary (X : zX K ad false false 0 h) (F : zF K ad h) : zm_Ct K M_X3_dictionary [.ref (ad 21), .ref (ad 7), .ref (ad 1)] h (poW K ad 2) := by
  refine zm_meet (by decide) (Nat.le_of_ble_eq_true rfl) ?_
  intro E C Rt _
  refine B_X3_dictionary_0 C Rt (Nat.le_refl 0) (Nat.le_refl 0) (t_f3 X ⟨t_xrc X, _, g_empty X, fun r h1 q => ?_⟩)
  obtain ⟨rfl, X1, c1, k1⟩ := q
  have h7 := (k1 7 (by decide) (by decide) (by decide)).trans F.2.2.1
  have o1 := (k1 1 (by decide) (by decide) (by decide)).trans F.1
  obtain ⟨c, f, hc, e19, e20, cl19, -⟩ := X1.runs
  unfold zRn at e19
  refine ⟨rfl, t_f2 X1 ?_⟩
  simp only [zm_gI, zm_pf, h7, e19, List.getElem?_cons_zero, List.getElem?_cons_succ, List.set_cons_zero, List.set_cons_succ, List.length_cons, List.length_nil, true_and]
  refine ⟨by decide, ?_⟩
  have X2 := cl19 0 (Nat.zero_le _)
  have r2 : zRn ad (zm_set h1 (ad 19) (.inr (6, [.ref (ad 20), .int (nI 0)]))) 0 := zm_set_s _ _ _
  have c2 : zm_set h1 (ad 19) (.inr (6, [.ref (ad 20), .int (nI 0)])) (ad 22) = _ := (zm_set_n (X1.ne (by decide) (by decide) (by decide))).trans c1
  have h72 : zm_set h1 (ad 19) (.inr (6, [.ref (ad 20), .int (nI 0)])) (ad 7) = _ := (zm_set_n (X1.ne (by decide) (by decide) (by decide))).trans h7
  have o2 : zm_set h1 (ad 19) (.inr (6, [.ref (ad 20), .int (nI 0)])) (ad 1) = _ := (zm_set_n (X1.ne (by decide) (by decide) (by decide))).trans o1
  generalize zm_set h1 (ad 19) (.inr (6, [.ref (ad 20), .int (nI 0)])) = h2 at X2 r2 c2 h72 o2
  obtain ⟨_, e2, t1, rfl⟩ := X2.2 2 (by decide)
  obtain ⟨-, -, -, -, -, -, -, -, cl2⟩ := X2.bytes zW1
  replace cl2 : ∀ s' : (Nat → Nat) × Nat, s'.2 ≤ 24000 → zX K ad false false 0 (zhB K h2 (ad 1) (ad 2) 24000 s') := cl2
  have n21 : ad 2 ≠ ad 1 := X2.ne (by decide) (by decide) (by decide)
  refine B_X3_dictionary_20 C Rt (Nat.le_refl 0) (Nat.le_refl 0) ?_
  simp only [zm_gI, h72, List.getElem?_cons_zero, List.getElem?_cons_succ, true_and]
  refine ⟨fun _ => t_f3 X2 ?_, fun z => absurd (by decide) z⟩
  simp only [c2, List.getElem?_cons_zero, List.getElem?_cons_succ, true_and]
  have P := g_putV1 (K := K) (h := h2) (b := ad 1) (a := ad 2) (n := 24000) (s := (t1, 0)) (x := (nI 0).toInt64) n21 (by decide) (Nat.zero_le _) (by decide +kernel)
  rw [zhB_id o2 e2] at P
  refine ⟨by simp only [zm_rc, o2], _, P, fun r h' q => ?_⟩
  obtain ⟨rfl, c', rfl⟩ := q
  have e8 : zpb 24000 (t1, 0) c' = (zup t1 0 c', 1) := if_pos (show 0 < 24000 by decide)
  rw [e8]
  have X3 := cl2 (zup t1 0 c', 1) (show 1 ≤ 24000 by decide)
  have c3 : zhB K h2 (ad 1) (ad 2) 24000 (zup t1 0 c', 1) (ad 22) = _ := (zhB_q (X2.ne (by decide) (by decide) (by decide)) (X2.ne (by decide) (by decide) (by decide))).trans c2
  refine ⟨rfl, B_X3_dictionary_67 C Rt (Nat.le_refl 0) (Nat.le_refl 0) (t_f3 X3 ?_)⟩
  simp only [zm_gI, c3, List.getElem?_cons_zero, List.getElem?_cons_succ, true_and]
  refine ⟨fun _ => t_f3 X3 ?_, fun z => absurd (by decide) z⟩
  simp only [c3, List.getElem?_cons_zero, List.getElem?_cons_succ, true_and]
  refine ⟨_, g_bitsOf (by decide +kernel), fun r h' q => ?_⟩
  obtain ⟨rfl, rfl⟩ := q
  refine ⟨_, rfl, w_X0_put n21 (by decide) (show 1 ≤ 24000 by decide) ?_⟩
  have e7 : ∀ y : Nat, zpb 24000 (zup t1 0 c', 1) y = (zup (zup t1 0 c') 1 y, 2) := fun y => if_pos (show 1 < 24000 by decide)
  rw [e7]
  have X4 := fun y => cl2 (zup (zup t1 0 c') 1 y, 2) (show 2 ≤ 24000 by decide)
  refine t_f2 (X4 _) ⟨t_rrc (X4 _), _, g_runs ((zhB_q (X2.ne (by decide) (by decide) (by decide)) (X2.ne (by decide) (by decide) (by decide))).trans r2), fun r h' q => ?_⟩
  obtain ⟨rfl, rfl⟩ := q
  exact ⟨rfl, rfl, X4 _, zhB_b⟩
theorem f_write (X : zX K ad false false 0 h) (F : zF K ad h) {x : Int32} : zm_Ct K M_X8_write [.ref (ad 0), .int x] h (poA (a_write x)) := by
  refine zm_meet (by decide) (Nat.le_of_ble_eq_true rfl) ?_
  intro E C Rt _
  refine B_X8_write_0 C Rt (Nat.le_refl 0) (Nat.le_refl 0) (t_80 X ?_)
  simp only [zm_pf, F.1, List.set_cons_zero, List.set_cons_succ, List.length_cons, List.length_nil, true_and]
  refine ⟨by decide, ?_⟩
  rw [zm_set_id F.1]
  have call : ∀ (M : zm_M) (n : Nat), a_write x = nI n → zm_Ct K M [.ref (ad 21), .ref (ad 7), .ref (ad 1)] h (poW K ad n) → zm_gR h (ad 0) 8 1 fun v2 => zm_gR h (ad 0) 8 5 fun v3 => zm_gR h (ad 0) 8 0 fun v4 => zm_rc h v2 3 ∧ zm_cv K M [.ref v2, .ref v3, .ref v4] h fun h2 => zm_gR h2 (ad 0) 8 0 fun v5 => zm_gI h2 v5 0 1 fun v6 => poA (a_write x) (some (.int v6)) h2 := by
    intro M n hn hM
    refine t_81 X (t_85 X (t_80 X ⟨t_frc X, _, hM, fun r h2 q => ?_⟩))
    obtain ⟨rfl, X2, o2⟩ := q
    refine ⟨rfl, t_80 X2 ?_⟩
    simp only [zm_gI, o2, List.getElem?_cons_zero, List.getElem?_cons_succ, true_and]
    show some (Value.int (nI n)) = some (Value.int (a_write x))
    rw [hn]
  refine ⟨fun e => call _ 0 (by rw [a_write, if_pos e]) (g_plain X F), fun e => call _ 2 (by rw [e]; decide) (g_lengths X F), fun e => call _ 4 (by rw [e]; decide) (g_front X F), fun e => call _ 2 (by rw [e]; decide) (g_dictionary X F), fun n0 n1 n2 n3 => ?_⟩
  show some (Value.int (-1)) = some (Value.int (a_write x))
  rw [a_write, if_neg n0, if_neg n1, if_neg n2, if_neg n3]
end ZF2
