section ZT3
variable {K : zm_K} {ad : Nat → Nat} {sw rw : Bool} {T : Nat} {h : zm_H}
theorem gX.ss {sw' : Bool} {T' k : Nat} {e : va_E} (g : gX K ad sw rw T k e) (hk : k ≠ 0) (h3 : k ≠ 3) (h5 : k ≠ 5) : gX K ad sw' rw T' k e := by
  unfold gX at g ⊢
  split <;> first | exact g | trivial | exact absurd rfl hk | exact absurd rfl h3 | exact absurd rfl h5
theorem zX.turned (X : zX K ad sw rw T h) {n : Nat} (hn : n ≤ 24000) : zX K ad (!sw) rw 0 (zm_set (zm_set (zm_set h (ad 0) (.inr (8, [.ref (ad 1), .ref (ad 21), .ref (ad 27), .ref (ad (zIp sw)), .ref (ad (zTp sw)), .ref (ad (zRo rw)), .ref (ad (zRn9 rw))]))) (ad (zTp sw)) (.inr (0, [.ref (ad (zTp sw + 1)), .int (nI n)]))) (ad (zIp sw)) (.inr (0, [.ref (ad (zIp sw + 1)), .int (nI 0)]))) := by
  refine ⟨X.1, fun k hk => ?_⟩
  have o32 : zTp sw < 32 ∧ zIp sw < 32 ∧ zTp sw ≠ zIp sw ∧ 0 ≠ zTp sw ∧ 0 ≠ zIp sw := by cases sw <;> decide
  by_cases h1 : k = zIp sw
  · subst h1
    refine ⟨_, zm_set_s _ _ _, ?_⟩
    cases sw
    · exact ⟨0, by decide, fun _ => rfl, rfl⟩
    · exact ⟨0, by decide, fun _ => rfl, rfl⟩
  · rw [zm_set_n (X.ne hk o32.2.1 h1)]
    by_cases h2 : k = zTp sw
    · subst h2
      refine ⟨_, zm_set_s _ _ _, ?_⟩
      cases sw
      · exact ⟨n, hn, fun z => absurd z (by decide), rfl⟩
      · exact ⟨n, hn, fun z => absurd z (by decide), rfl⟩
    · rw [zm_set_n (X.ne hk o32.1 h2)]
      by_cases h3 : k = 0
      · subst h3
        refine ⟨_, zm_set_s _ _ _, ?_⟩
        cases sw
        · rfl
        · rfl
      · obtain ⟨e, he, g⟩ := X.2 k hk
        refine ⟨e, (zm_set_n (X.ne hk (by decide) h3)).trans he, g.ss h3 ?_ ?_⟩
        · cases sw
          · exact h2
          · exact h1
        · cases sw
          · exact h1
          · exact h2
theorem k_X8_end (X : zX K ad sw rw T h) {x : Int32} : zm_Ct K M_X8_end [.ref (ad 0), .int x] h (poXe K ad sw rw T x) := by
  refine zm_meet (by decide) (Nat.le_of_ble_eq_true rfl) ?_
  intro E C Rt _
  obtain ⟨hT0, t, h1, h2⟩ := X.tp
  obtain ⟨s1, t1, hs1, e1, e2⟩ := X.inp (zIp_u sw)
  have o32 : zTp sw < 32 ∧ zIp sw < 32 ∧ zTp sw ≠ zIp sw ∧ 0 ≠ zTp sw ∧ 0 ≠ zIp sw := by cases sw <;> decide
  refine B_X8_end_0 C Rt (Nat.le_refl 0) (Nat.le_refl 0) ⟨fun q => ⟨rfl, Or.inr ⟨fun z => z.1 q, rfl, X⟩⟩, fun g0 => t_83 X ?_⟩
  have gi : ∀ {F : Int32 → Prop}, F (nI T) → zm_gI h (ad (zTp sw)) 0 1 F := fun hF => by
    simp only [zm_gI, h1, List.getElem?_cons_zero, List.getElem?_cons_succ, true_and]
    exact hF
  refine gi ⟨fun g1 => ?_, fun q => ⟨rfl, Or.inr ⟨fun z => q z.2, rfl, X⟩⟩⟩
  have ok : ¬ x < 0 ∧ x ≤ nI T := ⟨g0, g1⟩
  obtain ⟨n, hn, rfl⟩ := nI_of2 (M := nI T) (n := T) (nI_toInt (by omega)) g0 g1
  have Y := X.turned (n := n) (by omega)
  have n1 := X.ne o32.1 (by decide : (0 : Nat) < 32) (Ne.symm o32.2.2.2.1)
  have n2 := X.ne o32.2.1 (by decide : (0 : Nat) < 32) (Ne.symm o32.2.2.2.2)
  have n3 := X.ne o32.1 o32.2.1 o32.2.2.1
  refine t_83 X (t_84 X ?_)
  simp only [zm_pf, zm_gR, X.ob8, h1, e1, zm_set_s, zm_set_set, zm_set_n n1, zm_set_n n2, zm_set_n n1.symm, zm_set_n n3.symm, List.getElem?_cons_zero, List.getElem?_cons_succ, List.set_cons_zero, List.set_cons_succ, List.length_cons, List.length_nil, true_and]
  exact ⟨by decide, by decide, by decide, by decide, rfl, Or.inl ⟨ok, rfl, Y⟩⟩
end ZT3
