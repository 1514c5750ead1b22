/-! the reference: one object with thirteen arrays; its int fields as numbers, by their places; its arrays, by the places of the fields that hold them -/
def mS : Type := (Nat → Nat) × (Nat → Nat → Int32) × (Nat → Int64)
abbrev mS.fi (s : mS) : Nat → Nat := Prod.fst s
abbrev mS.ai (s : mS) : Nat → Nat → Int32 := Prod.fst (Prod.snd s)
abbrev mS.lg (s : mS) : Nat → Int64 := Prod.snd (Prod.snd s)
def mS.pf (s : mS) (k v : Nat) : mS := ⟨zup s.fi k v, s.ai, s.lg⟩
def mS.sa (s : mS) (j k : Nat) (x : Int32) : mS := ⟨s.fi, zup s.ai j (upd (s.ai j) k x), s.lg⟩
def mS.sl (s : mS) (k : Nat) (x : Int64) : mS := ⟨s.fi, s.ai, vp_updL s.lg k x⟩
def mfl (ad : Nat → Nat) (s : mS) : List Value := [.int (nI (s.fi 0)), .ref (ad 1), .ref (ad 2), .ref (ad 3), .ref (ad 4), .ref (ad 5), .ref (ad 6), .int (nI (s.fi 7)), .int (nI (s.fi 8)), .int (nI (s.fi 9)), .ref (ad 10), .ref (ad 11), .ref (ad 12), .int (nI (s.fi 13)), .int (nI (s.fi 14)), .int (nI (s.fi 15)), .int (nI (s.fi 16)), .int (nI (s.fi 17)), .ref (ad 18), .int (nI (s.fi 19)), .ref (ad 20), .ref (ad 21), .ref (ad 22)]
def mln (j : Nat) : Nat := match j with
  | 1 => 1001
  | 2 => 1001
  | 3 => 1001
  | 4 => 20000
  | 5 => 20000
  | 6 => 20000
  | 10 => 24000
  | 11 => 24000
  | 12 => 60000
  | 20 => 1008
  | _ => 1000
theorem mln_lt (j : Nat) : mln j < 2 ^ 31 := by
  unfold mln
  split <;> decide
def mIx : List Nat := [1, 2, 3, 4, 5, 6, 10, 11, 12, 20, 21, 22]
def zM (K : zm_K) (ad : Nat → Nat) (s : mS) (h : zm_H) : Prop := (∀ i ∈ 0 :: 18 :: mIx, ∀ j ∈ 0 :: 18 :: mIx, ad i = ad j → i = j) ∧ h (ad 0) = some (.inr (9, mfl ad s)) ∧ (∀ j ∈ mIx, h (ad j) = some (zI K (mln j) (s.ai j))) ∧ h (ad 18) = some (zL K 2000 s.lg)
section ZMR
variable {K : zm_K} {ad : Nat → Nat} {s : mS} {h : zm_H}
theorem zM.inj (X : zM K ad s h) : ∀ i ∈ 0 :: 18 :: mIx, ∀ j ∈ 0 :: 18 :: mIx, ad i = ad j → i = j := X.1
theorem zM.ob (X : zM K ad s h) : h (ad 0) = some (.inr (9, mfl ad s)) := X.2.1
theorem zM.ar (X : zM K ad s h) : ∀ j ∈ mIx, h (ad j) = some (zI K (mln j) (s.ai j)) := X.2.2.1
theorem zM.lo (X : zM K ad s h) : h (ad 18) = some (zL K 2000 s.lg) := X.2.2.2
theorem zM.rc (X : zM K ad s h) : zm_rc h (ad 0) 9 := by
  unfold zm_rc
  rw [X.ob]
theorem zM.gI (X : zM K ad s h) (k : Nat) (hk : (mfl ad s)[k]? = some (.int (nI (s.fi k)))) {Kc : Int32 → Prop} (kk : Kc (nI (s.fi k))) : zm_gI h (ad 0) 9 k Kc := by
  simp only [zm_gI, X.ob, hk, true_and]
  exact kk
theorem zM.gR (X : zM K ad s h) (k : Nat) (hk : (mfl ad s)[k]? = some (.ref (ad k))) {Kc : Nat → Prop} (kk : Kc (ad k)) : zm_gR h (ad 0) 9 k Kc := by
  simp only [zm_gR, X.ob, hk, true_and]
  exact kk
theorem zM.ne (X : zM K ad s h) {i j : Nat} (hi : i ∈ 0 :: 18 :: mIx) (hj : j ∈ 0 :: 18 :: mIx) (hij : i ≠ j) : ad i ≠ ad j := fun q => hij (X.inj i hi j hj q)
theorem mIx_0 {j : Nat} (hj : j ∈ mIx) : j ∈ 0 :: 18 :: mIx := List.mem_cons_of_mem _ (List.mem_cons_of_mem _ hj)
theorem mIx_n {j : Nat} (hj : j ∈ mIx) : j ≠ 0 ∧ j ≠ 18 := ⟨fun q => by subst q; exact absurd hj (by decide), fun q => by subst q; exact absurd hj (by decide)⟩
theorem zM.pf (X : zM K ad s h) (k v : Nat) (hk : (mfl ad s).set k (.int (nI v)) = mfl ad (s.pf k v)) (hl : k < 23) {x : Int32} (hx : x = nI v) {Kc : zm_H → Prop} (kk : ∀ h', zM K ad (s.pf k v) h' → Kc h') : zm_pf h (ad 0) 9 k (.int x) Kc := by
  subst hx
  simp only [zm_pf, X.ob, hk, true_and]
  refine ⟨hl, kk _ ⟨X.inj, zm_set_s _ _ _, fun j hj => ?_, ?_⟩⟩
  · rw [zm_set_n (X.ne (mIx_0 hj) (List.mem_cons_self ..) (mIx_n hj).1)]
    exact X.ar j hj
  · rw [zm_set_n (X.ne (by decide) (by decide) (by decide))]
    exact X.lo
theorem zM.ld (X : zM K ad s h) (j m : Nat) (hj : j ∈ mIx) (hm : m < mln j) {i : Int32} (hi : i = nI m) {Kc : Int32 → Prop} (kk : Kc (s.ai j m)) : zm_ld K 1 h (ad j) i Kc := by
  subst hi
  have e := X.ar j hj
  unfold zI at e
  have hl := mln_lt j
  simp only [zm_ld, e, true_and]
  refine ⟨vp_in_nI hm hl, ?_⟩
  rw [nI_clamp (by omega)]
  exact kk
theorem zM.st (X : zM K ad s h) (j m : Nat) (hj : j ∈ mIx) (hm : m < mln j) {i x : Int32} (hi : i = nI m) {Kc : zm_H → Prop} (kk : ∀ h', zM K ad (s.sa j m x) h' → Kc h') : zm_sI K h (ad j) i x Kc := by
  subst hi
  have e := X.ar j hj
  unfold zI at e
  have hl := mln_lt j
  simp only [zm_sI, e, true_and]
  refine ⟨vp_in_nI hm hl, ?_⟩
  rw [nI_clamp (by omega)]
  refine kk _ ⟨X.inj, ?_, fun q hq => ?_, ?_⟩
  · rw [zm_set_n (X.ne (List.mem_cons_self ..) (mIx_0 hj) (mIx_n hj).1.symm)]
    exact X.ob
  · by_cases hqj : q = j
    · subst hqj
      rw [zm_set_s]
      show _ = some (zI K (mln q) (zup s.ai q (upd (s.ai q) m x) q))
      rw [zup, if_pos rfl]
      rfl
    · rw [zm_set_n (X.ne (mIx_0 hq) (mIx_0 hj) hqj)]
      show _ = some (zI K (mln q) (zup s.ai j (upd (s.ai j) m x) q))
      rw [zup, if_neg hqj]
      exact X.ar q hq
  · rw [zm_set_n (X.ne (by decide) (mIx_0 hj) (mIx_n hj).2.symm)]
    exact X.lo
theorem zM.lL (X : zM K ad s h) (m : Nat) (hm : m < 2000) {i : Int32} (hi : i = nI m) {Kc : Int64 → Prop} (kk : Kc (s.lg m)) : zm_lL K h (ad 18) i Kc := by
  subst hi
  have e := X.lo
  unfold zL at e
  simp only [zm_lL, e, true_and]
  refine ⟨vp_in_nI hm (by decide), ?_⟩
  rw [nI_clamp (by omega)]
  exact kk
theorem zM.sL (X : zM K ad s h) (m : Nat) (hm : m < 2000) {i : Int32} {x : Int64} (hi : i = nI m) {Kc : zm_H → Prop} (kk : ∀ h', zM K ad (s.sl m x) h' → Kc h') : zm_sL K h (ad 18) i x Kc := by
  subst hi
  have e := X.lo
  unfold zL at e
  simp only [zm_sL, e, true_and]
  refine ⟨vp_in_nI hm (by decide), ?_⟩
  rw [nI_clamp (by omega)]
  refine kk _ ⟨X.inj, ?_, fun q hq => ?_, zm_set_s _ _ _⟩
  · rw [zm_set_n (X.ne (List.mem_cons_self ..) (by decide) (by decide))]
    exact X.ob
  · rw [zm_set_n (X.ne (mIx_0 hq) (by decide) (mIx_n hq).2)]
    exact X.ar q hq
end ZMR
/-- bytes -/
def mB (f : Nat → Int32) : Prop := ∀ k, ∃ b, b < 256 ∧ f k = nI b
theorem mB.up {f : Nat → Int32} (hf : mB f) {k : Nat} {x : Int32} (hx : ∃ b, b < 256 ∧ x = nI b) : mB (upd f k x) := fun j => by
  by_cases q : j = k
  · rw [upd, if_pos q]
    exact hx
  · rw [upd, if_neg q]
    exact hf j
theorem mB_and (x : Int32) : ∃ b, b < 256 ∧ x &&& nI 255 = nI b := by
  refine ⟨x.toBitVec.toNat % 256, Nat.mod_lt _ (by decide), ?_⟩
  apply Int32.toBitVec_inj.mp
  apply BitVec.eq_of_toNat_eq
  have e : (nI 255).toBitVec.toNat = 2 ^ 8 - 1 := rfl
  rw [Int32.toBitVec_and, BitVec.toNat_and, e, Nat.and_two_pow_sub_one_eq_mod]
  show _ = (BitVec.ofNat 32 _).toNat
  rw [BitVec.toNat_ofNat]
  omega
/-- only the output has changed: at most n bytes more -/
def mO (n : Nat) (s s' : mS) : Prop := (∀ k, k ≠ 15 → s'.fi k = s.fi k) ∧ (∀ j, j ≠ 12 → s'.ai j = s.ai j) ∧ s'.lg = s.lg ∧ s.fi 15 ≤ s'.fi 15 ∧ s'.fi 15 ≤ s.fi 15 + n ∧ (mB (s.ai 12) → mB (s'.ai 12))
theorem mO.fi {n : Nat} {s s' : mS} (q : mO n s s') : ∀ k, k ≠ 15 → s'.fi k = s.fi k := q.1
theorem mO.ai {n : Nat} {s s' : mS} (q : mO n s s') : ∀ j, j ≠ 12 → s'.ai j = s.ai j := q.2.1
theorem mO.lg {n : Nat} {s s' : mS} (q : mO n s s') : s'.lg = s.lg := q.2.2.1
theorem mO.lo {n : Nat} {s s' : mS} (q : mO n s s') : s.fi 15 ≤ s'.fi 15 := q.2.2.2.1
theorem mO.hi {n : Nat} {s s' : mS} (q : mO n s s') : s'.fi 15 ≤ s.fi 15 + n := q.2.2.2.2.1
theorem mO.by9 {n : Nat} {s s' : mS} (q : mO n s s') : mB (s.ai 12) → mB (s'.ai 12) := q.2.2.2.2.2
theorem mO.rf (n : Nat) (s : mS) : mO n s s := ⟨fun _ _ => rfl, fun _ _ => rfl, rfl, Nat.le_refl _, Nat.le_add_right _ _, fun q => q⟩
theorem mO.trans {a b : Nat} {s s' s'' : mS} (h1 : mO a s s') (h2 : mO b s' s'') : mO (a + b) s s'' :=
  ⟨fun k hk => (h2.fi k hk).trans (h1.fi k hk), fun j hj => (h2.ai j hj).trans (h1.ai j hj), h2.lg.trans h1.lg, Nat.le_trans h1.lo h2.lo, by have := h1.hi; have := h2.hi; omega, fun q => h2.by9 (h1.by9 q)⟩
theorem mO.mono {a b : Nat} {s s' : mS} (h1 : mO a s s') (hab : a ≤ b) : mO b s s' := ⟨h1.fi, h1.ai, h1.lg, h1.lo, by have := h1.hi; omega, h1.by9⟩
def poO (K : zm_K) (ad : Nat → Nat) (s : mS) (n : Nat) : zm_Po := fun r h' => r = none ∧ ∃ s', zM K ad s' h' ∧ mO n s s'
section ZMS
variable {K : zm_K} {ad : Nat → Nat} {s : mS} {h : zm_H}
theorem m_cv {M : zm_M} {as : List Value} {n : Nat} {F : zm_H → Prop} (hM : zm_Ct K M as h (poO K ad s n)) (hF : ∀ s' h', zM K ad s' h' → mO n s s' → F h') : zm_cv K M as h F := ⟨_, hM, fun _ _ q => ⟨q.1, by obtain ⟨_, s', X', O⟩ := q; exact hF s' _ X' O⟩⟩
theorem r_put (X : zM K ad s h) (ho : s.fi 15 < 60000) {x : Int32} : zm_Ct K M_X9_put [.ref (ad 0), .int x] h (poO K ad s 1) := by
  refine zm_meet (by decide) (Nat.le_of_ble_eq_true rfl) ?_
  intro E C Rt _
  refine B_X9_put_0 C Rt (Nat.le_refl 0) (Nat.le_refl 0) ?_
  refine X.gR 12 rfl (X.gI 15 rfl (X.st 12 (s.fi 15) (by decide) ho rfl fun h1 X1 => X1.gI 15 rfl (X1.pf 15 (s.fi 15 + 1) rfl (by decide) (nI_add _ _) fun h2 X2 => ?_)))
  refine ⟨rfl, _, X2, fun k hk => if_neg hk, fun j hj => if_neg hj, rfl, Nat.le_succ _, Nat.le_refl _, fun q => ?_⟩
  exact q.up (mB_and x)
theorem m_put (X : zM K ad s h) (ho : s.fi 15 < 60000) {x : Int32} {F : zm_H → Prop} (hF : ∀ s' h', zM K ad s' h' → mO 1 s s' → F h') : zm_rc h (ad 0) 9 ∧ zm_cv K M_X9_put [.ref (ad 0), .int x] h F := ⟨X.rc, m_cv (r_put X ho) hF⟩
end ZMS
