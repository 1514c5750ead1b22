/-! the law's own rows: the script, the end -/
section LWS
variable {E : zm_E} {cc : ByteArray} {own : String} {K : zm_K} {d lo rc rs nl nc ns pc : Nat} {L L' : List (Nat × Value)} {st : List Value} {h : zm_H}
def zm_sX : zm_E → Nat → Nat → (Nat → Int32) → Prop
  | (_, _, _, _, s, _, _, _, _, _, _, _, A, _, _), b, n, xs => va_X b n xs s s.heap ∧ b < s.heap.size ∧ ¬ A b
theorem zm_scl (C : zm_Cx E K cc own d lo rc rs nl) {b n : Nat} {xs : Nat → Int32} (X : zm_sX E b n xs) {i : Int32} (hd : decode cc pc = .ok (.iaload, 1)) (hin : vp_in i n) (kk : zm_Go E nc ns (pc + 1) L (.int (xs i.toNatClampNeg) :: st) h) : zm_Go E nc ns pc L (.int i :: .ref b :: st) h := by
  obtain ⟨p, l, e, R, s, m, args, below, meth, c, D, cA, A, nL, Q⟩ := E
  intro H locs ls ws hl hag hP hD hS
  exact va_sld C.1.1 C.1.2.1 X.1 X.2.1 X.2.2 hS hin hd (kk H locs ls ws hl hag hP hD hS)
theorem zm_scn (C : zm_Cx E K cc own d lo rc rs nl) {b n : Nat} {xs : Nat → Int32} (X : zm_sX E b n xs) (hd : decode cc pc = .ok (.arraylength, 1)) (kk : zm_Go E nc ns (pc + 1) L (.int (nI n) :: st) h) : zm_Go E nc ns pc L (.ref b :: st) h := by
  obtain ⟨p, l, e, R, s, m, args, below, meth, c, D, cA, A, nL, Q⟩ := E
  intro H locs ls ws hl hag hP hD hS
  exact va_slen C.1.1 C.1.2.1 X.1 X.2.1 X.2.2 hS hd (kk H locs ls ws hl hag hP hD hS)
def zm_lZ : zm_E → Nat → Prop
  | (_, _, _, R, s, _, args, below, meth, _, _, _, A, _, Q), b => R = room_1 ∧ args = #[Value.ref b] ∧ (∀ q, A q → s.heap.size ≤ q) ∧ meth.sig.returnType = ret ∧ Q = lw_Z below #[Value.ref b] s
theorem zm_lend (C : zm_Cx E K code own d lo rc rs nl) {b : Nat} (Z : zm_lZ E b) {v : Int32} (h1 : nc ≤ 600000) (h2 : ns ≤ 7302250) (hd : decode code pc = .ok (.ireturn, 1)) (hv : v = nI 1) : zm_Go E nc ns pc L [.int v] h := by
  obtain ⟨p, l, e, R, s, m, args, below, meth, c, D, cA, A, nL, Q⟩ := E
  intro H locs ls ws hl hag hP hD hS
  obtain ⟨rfl, rfl, hA, hr, rfl⟩ := Z
  subst hv
  rw [show nI 1 = (1 : Int32) by decide]
  refine va_forget (fun q hq => hA _ (hS.2.2 q hq)) (W.widen h1 h2 ?_)
  exact lw_ret C.1.1 C.1.2.1 hr C.2.1 hd
end LWS
theorem lw_in {i k n : Nat} (h : i + k < n) (hn : n < 2 ^ 31) : vp_in (nI i + nI k) n := by
  rw [nI_add]
  exact vp_in_nI h hn
/-! class and reference side by side -/
section LWJ
variable {K : zm_K} {ad ad' : Nat → Nat} {T1 T2 : Nat} {h : zm_H}
def lwJ (K : zm_K) (ad ad' : Nat → Nat) (T1 T2 : Nat) (h : zm_H) : Prop := ∃ (sw rw : Bool) (s : mS) (hX hM : zm_H), zm_dj hX hM ∧ h = zm_un hX hM ∧ zX K ad sw rw T1 hX ∧ zM K ad' s hM ∧ mI T2 s
theorem lwJ.cx (J : lwJ K ad ad' T1 T2 h) {M : zm_M} {as : List Value} {P : Option Value → Nat → Prop} (hM : ∀ sw rw hX, zX K ad sw rw T1 hX → ∃ Post, zm_Ct K M as hX Post ∧ ∀ r h', Post r h' → ∃ sw' rw' T', P r T' ∧ zX K ad sw' rw' T' h') : zm_rc h (ad 0) 8 ∧ ∃ Post, zm_Ct K M as h Post ∧ ∀ r h', Post r h' → ∃ T', P r T' ∧ lwJ K ad ad' T' T2 h' := by
  obtain ⟨sw, rw, s, hX, hM9, dj, rfl, X, Y, I⟩ := J
  refine ⟨by simp only [zm_rc, zm_un_l X.ob8], ?_⟩
  obtain ⟨Post, ct, hp⟩ := hM sw rw hX X
  refine ⟨_, zm_frame ct dj, fun r h' q => ?_⟩
  obtain ⟨h1', q1, q2, rfl⟩ := q
  obtain ⟨sw', rw', T', p1, X'⟩ := hp r h1' q1
  exact ⟨T', p1, sw', rw', s, h1', hM9, q2, rfl, X', Y, I⟩
theorem lwJ.cm (J : lwJ K ad ad' T1 T2 h) {M : zm_M} {as : List Value} {P : Option Value → Nat → Prop} (hM : ∀ s hM, zM K ad' s hM → mI T2 s → ∃ Post, zm_Ct K M as hM Post ∧ ∀ r h', Post r h' → ∃ s' T', P r T' ∧ zM K ad' s' h' ∧ mI T' s') : zm_rc h (ad' 0) 9 ∧ ∃ Post, zm_Ct K M as h Post ∧ ∀ r h', Post r h' → ∃ T', P r T' ∧ lwJ K ad ad' T1 T' h' := by
  obtain ⟨sw, rw, s, hX, hM9, dj, rfl, X, Y, I⟩ := J
  rw [zm_un_c dj]
  refine ⟨by simp only [zm_rc, zm_un_l Y.ob], ?_⟩
  obtain ⟨Post, ct, hp⟩ := hM s hM9 Y I
  refine ⟨_, zm_frame ct dj.sy, fun r h' q => ?_⟩
  obtain ⟨h1', q1, q2, rfl⟩ := q
  obtain ⟨s', T', p1, Y', I'⟩ := hp r h1' q1
  exact ⟨T', p1, sw, rw, s', hX, h1', q2.sy, zm_un_c q2, X, Y', I'⟩
theorem lwJ.eq (J : lwJ K ad ad' T1 T2 h) (e : T1 = T2) : ∃ T, lwJ K ad ad' T T h := by
  subst e
  exact ⟨_, J⟩
def lw_pf (T : Nat) (r : Option Value) (T' : Nat) : Prop := (T + 20 ≤ 24000 ∧ r = some (.int (nI 1)) ∧ T' = T + 20) ∨ (¬ T + 20 ≤ 24000 ∧ r = some (.int (nI 0)) ∧ T' = T)
def lw_pe (v : Int32) (T : Nat) (r : Option Value) (T' : Nat) : Prop := ((¬ v < 0 ∧ v ≤ nI T) ∧ r = some (.int (nI 1)) ∧ T' = 0) ∨ (¬ (¬ v < 0 ∧ v ≤ nI T) ∧ r = some (.int (nI 0)) ∧ T' = T)
def lw_pt (T : Nat) (r : Option Value) (T' : Nat) : Prop := r = some (.int (nI 1)) ∧ T' = T
def lw_pi (T : Nat) (r : Option Value) (T' : Nat) : Prop := (∃ y : Int32, r = some (.int y)) ∧ T' = T
def lw_pv (T : Nat) (r : Option Value) (T' : Nat) : Prop := r = none ∧ T' = T
theorem lw_pf.i {T T' : Nat} {r : Option Value} (p : lw_pf T r T') : ∃ y : Int32, r = some (.int y) := by
  rcases p with ⟨_, rfl, _⟩ | ⟨_, rfl, _⟩
  · exact ⟨_, rfl⟩
  · exact ⟨_, rfl⟩
theorem lw_pe.i {v : Int32} {T T' : Nat} {r : Option Value} (p : lw_pe v T r T') : ∃ y : Int32, r = some (.int y) := by
  rcases p with ⟨_, rfl, _⟩ | ⟨_, rfl, _⟩
  · exact ⟨_, rfl⟩
  · exact ⟨_, rfl⟩
theorem lw_pt.i {T T' : Nat} {r : Option Value} (p : lw_pt T r T') : ∃ y : Int32, r = some (.int y) := ⟨_, p.1⟩
theorem lw_pi.i {T T' : Nat} {r : Option Value} (p : lw_pi T r T') : ∃ y : Int32, r = some (.int y) := p.1
theorem lw_pf.eq {T U V : Nat} {x y : Int32} (p : lw_pf T (some (.int x)) U) (q : lw_pf T (some (.int y)) V) : x = y ∧ U = V := by
  rcases p with ⟨a, b, c⟩ | ⟨a, b, c⟩ <;> rcases q with ⟨a', b', c'⟩ | ⟨a', b', c'⟩
  · exact ⟨by cases b; cases b'; rfl, c.trans c'.symm⟩
  · exact absurd a a'
  · exact absurd a' a
  · exact ⟨by cases b; cases b'; rfl, c.trans c'.symm⟩
theorem lw_pe.eq {v : Int32} {T U V : Nat} {x y : Int32} (p : lw_pe v T (some (.int x)) U) (q : lw_pe v T (some (.int y)) V) : x = y ∧ U = V := by
  rcases p with ⟨a, b, c⟩ | ⟨a, b, c⟩ <;> rcases q with ⟨a', b', c'⟩ | ⟨a', b', c'⟩
  · exact ⟨by cases b; cases b'; rfl, c.trans c'.symm⟩
  · exact absurd a a'
  · exact absurd a' a
  · exact ⟨by cases b; cases b'; rfl, c.trans c'.symm⟩
theorem lw_pt.eq {T U V : Nat} {x y : Int32} (p : lw_pt T (some (.int x)) U) (q : lw_pt T (some (.int y)) V) : x = y ∧ U = V := ⟨by have := p.1.trans q.1.symm; cases this; rfl, p.2.trans q.2.symm⟩
theorem lw_pi.eq {T U V : Nat} {r r' : Option Value} (p : lw_pi T r U) (q : lw_pi T r' V) : True ∧ U = V := ⟨trivial, p.2.trans q.2.symm⟩
theorem lw_pv.eq {T U V : Nat} {r r' : Option Value} (p : lw_pv T r U) (q : lw_pv T r' V) : True ∧ U = V := ⟨trivial, p.2.trans q.2.symm⟩
/-- a call of the class -/
theorem lwJ.ci (J : lwJ K ad ad' T1 T2 h) {M : zm_M} {as : List Value} {P : Option Value → Nat → Prop} (hi : ∀ r T', P r T' → ∃ y : Int32, r = some (.int y)) (hM : ∀ sw rw hX, zX K ad sw rw T1 hX → ∃ Post, zm_Ct K M as hX Post ∧ ∀ r h', Post r h' → ∃ sw' rw' T', P r T' ∧ zX K ad sw' rw' T' h') {F : Int32 → zm_H → Prop} (kk : ∀ x T' h', P (some (.int x)) T' → lwJ K ad ad' T' T2 h' → F x h') : zm_rc h (ad 0) 8 ∧ zm_ci K M as h F := by
  obtain ⟨a, Post, ct, hp⟩ := J.cx hM
  refine ⟨a, Post, ct, fun r h' q => ?_⟩
  obtain ⟨T', p, J'⟩ := hp r h' q
  obtain ⟨y, rfl⟩ := hi r T' p
  exact ⟨y, rfl, kk y T' h' p J'⟩
/-- a call of the reference -/
theorem lwJ.mi (J : lwJ K ad ad' T1 T2 h) {M : zm_M} {as : List Value} {P : Option Value → Nat → Prop} (hi : ∀ r T', P r T' → ∃ y : Int32, r = some (.int y)) (hM : ∀ s hM, zM K ad' s hM → mI T2 s → ∃ Post, zm_Ct K M as hM Post ∧ ∀ r h', Post r h' → ∃ s' T', P r T' ∧ zM K ad' s' h' ∧ mI T' s') {F : Int32 → zm_H → Prop} (kk : ∀ x T' h', P (some (.int x)) T' → lwJ K ad ad' T1 T' h' → F x h') : zm_rc h (ad' 0) 9 ∧ zm_ci K M as h F := by
  obtain ⟨a, Post, ct, hp⟩ := J.cm hM
  refine ⟨a, Post, ct, fun r h' q => ?_⟩
  obtain ⟨T', p, J'⟩ := hp r h' q
  obtain ⟨y, rfl⟩ := hi r T' p
  exact ⟨y, rfl, kk y T' h' p J'⟩
theorem lw_Xi {M : zm_M} {as : List Value} {sw rw : Bool} {h : zm_H} (c : zm_Ct K M as h (poXi K ad sw rw T1)) : ∃ Post, zm_Ct K M as h Post ∧ ∀ r h', Post r h' → ∃ sw' rw' T', lw_pi T1 r T' ∧ zX K ad sw' rw' T' h' := ⟨_, c, fun _ _ q => ⟨sw, rw, T1, ⟨q.1, rfl⟩, q.2⟩⟩
theorem lw_Mi {M : zm_M} {as : List Value} {h : zm_H} (c : zm_Ct K M as h (poI K ad' T2)) : ∃ Post, zm_Ct K M as h Post ∧ ∀ r h', Post r h' → ∃ s' T', lw_pi T2 r T' ∧ zM K ad' s' h' ∧ mI T' s' := ⟨_, c, fun _ _ q => by
  obtain ⟨y, s', Y, I⟩ := q
  exact ⟨s', T2, ⟨y, rfl⟩, Y, I⟩⟩
theorem lw_X_feed (J : lwJ K ad ad' T1 T2 h) {x1 x2 x3 x4 x5 : Int32} {F : Int32 → zm_H → Prop} (kk : ∀ x T' h', lw_pf T1 (some (.int x)) T' → lwJ K ad ad' T' T2 h' → F x h') : zm_rc h (ad 0) 8 ∧ zm_ci K M_X8_feed [.ref (ad 0), .int x1, .int x2, .int x3, .int x4, .int x5] h F :=
  J.ci (P := lw_pf T1) (fun _ _ p => p.i) (fun sw rw hX X => ⟨_, k_X8_feed X, fun r h' q => by
    rcases q with ⟨a, b, c⟩ | ⟨a, b, c⟩
    · exact ⟨sw, rw, _, Or.inl ⟨a, b, rfl⟩, c⟩
    · exact ⟨sw, rw, _, Or.inr ⟨a, b, rfl⟩, c⟩⟩) kk
theorem lw_M_feed (J : lwJ K ad ad' T1 T2 h) {x1 x2 x3 x4 x5 : Int32} {F : Int32 → zm_H → Prop} (kk : ∀ x T' h', lw_pf T2 (some (.int x)) T' → lwJ K ad ad' T1 T' h' → F x h') : zm_rc h (ad' 0) 9 ∧ zm_ci K M_X9_feed [.ref (ad' 0), .int x1, .int x2, .int x3, .int x4, .int x5] h F :=
  J.mi (P := lw_pf T2) (fun _ _ p => p.i) (fun s hM Y I => ⟨_, r_feed Y I, fun r h' q => by
    obtain ⟨s', Y', q⟩ := q
    rcases q with ⟨a, b, c⟩ | ⟨a, b, c⟩
    · exact ⟨s', _, Or.inl ⟨a, b, rfl⟩, Y', c⟩
    · exact ⟨s', _, Or.inr ⟨a, b, rfl⟩, Y', c⟩⟩) kk
theorem lw_X_end (J : lwJ K ad ad' T1 T2 h) {x1 : Int32} {F : Int32 → zm_H → Prop} (kk : ∀ x T' h', lw_pe x1 T1 (some (.int x)) T' → lwJ K ad ad' T' T2 h' → F x h') : zm_rc h (ad 0) 8 ∧ zm_ci K M_X8_end [.ref (ad 0), .int x1] h F :=
  J.ci (P := lw_pe x1 T1) (fun _ _ p => p.i) (fun sw rw hX X => ⟨_, k_X8_end X, fun r h' q => by
    rcases q with ⟨a, b, c⟩ | ⟨a, b, c⟩
    · exact ⟨!sw, rw, _, Or.inl ⟨a, b, rfl⟩, c⟩
    · exact ⟨sw, rw, _, Or.inr ⟨a, b, rfl⟩, c⟩⟩) kk
theorem lw_M_end (J : lwJ K ad ad' T1 T2 h) {x1 : Int32} {F : Int32 → zm_H → Prop} (kk : ∀ x T' h', lw_pe x1 T2 (some (.int x)) T' → lwJ K ad ad' T1 T' h' → F x h') : zm_rc h (ad' 0) 9 ∧ zm_ci K M_X9_end [.ref (ad' 0), .int x1] h F :=
  J.mi (P := lw_pe x1 T2) (fun _ _ p => p.i) (fun s hM Y I => ⟨_, r_end Y I, fun r h' q => by
    obtain ⟨s', Y', q⟩ := q
    rcases q with ⟨a, b, c⟩ | ⟨a, b, c⟩
    · exact ⟨s', _, Or.inl ⟨a, b, rfl⟩, Y', c⟩
    · exact ⟨s', _, Or.inr ⟨a, b, rfl⟩, Y', c⟩⟩) kk
theorem lw_X_turn (J : lwJ K ad ad' T1 T2 h) {F : Int32 → zm_H → Prop} (kk : ∀ x T' h', lw_pt T1 (some (.int x)) T' → lwJ K ad ad' T' T2 h' → F x h') : zm_rc h (ad 0) 8 ∧ zm_ci K M_X8_turn [.ref (ad 0)] h F :=
  J.ci (P := lw_pt T1) (fun _ _ p => p.i) (fun sw rw hX X => ⟨_, k_X8_turn X, fun r h' q => ⟨sw, rw, _, ⟨q.1, rfl⟩, q.2⟩⟩) kk
theorem lw_M_turn (J : lwJ K ad ad' T1 T2 h) {F : Int32 → zm_H → Prop} (kk : ∀ x T' h', lw_pt T2 (some (.int x)) T' → lwJ K ad ad' T1 T' h' → F x h') : zm_rc h (ad' 0) 9 ∧ zm_ci K M_X9_turn [.ref (ad' 0)] h F :=
  J.mi (P := lw_pt T2) (fun _ _ p => p.i) (fun s hM Y I => ⟨_, r_turn Y I, fun r h' q => by
    obtain ⟨b, s', Y', I'⟩ := q
    exact ⟨s', _, ⟨b, rfl⟩, Y', I'⟩⟩) kk
theorem lw_X_clear (J : lwJ K ad ad' T1 T2 h) {F : zm_H → Prop} (kk : ∀ T' h', lw_pv T1 none T' → lwJ K ad ad' T' T2 h' → F h') : zm_rc h (ad 0) 8 ∧ zm_cv K M_X8_clear [.ref (ad 0)] h F := by
  obtain ⟨a, Post, ct, hp⟩ := J.cx (P := lw_pv T1) (fun sw rw hX X => ⟨_, k_X8_clear X, fun r h' q => ⟨sw, rw, _, ⟨q.1, rfl⟩, q.2⟩⟩)
  refine ⟨a, Post, ct, fun r h' q => ?_⟩
  obtain ⟨T', p, J'⟩ := hp r h' q
  obtain ⟨rfl, rfl⟩ := p
  exact ⟨rfl, kk _ h' ⟨rfl, rfl⟩ J'⟩
theorem lw_M_clear (J : lwJ K ad ad' T1 T2 h) {F : zm_H → Prop} (kk : ∀ T' h', lw_pv T2 none T' → lwJ K ad ad' T1 T' h' → F h') : zm_rc h (ad' 0) 9 ∧ zm_cv K M_X9_clear [.ref (ad' 0)] h F := by
  obtain ⟨a, Post, ct, hp⟩ := J.cm (P := lw_pv T2) (fun s hM Y I => ⟨_, r_clear Y I, fun r h' q => by
    obtain ⟨b, s', Y', I'⟩ := q
    exact ⟨s', _, ⟨b, rfl⟩, Y', I'⟩⟩)
  refine ⟨a, Post, ct, fun r h' q => ?_⟩
  obtain ⟨T', p, J'⟩ := hp r h' q
  obtain ⟨rfl, rfl⟩ := p
  exact ⟨rfl, kk _ h' ⟨rfl, rfl⟩ J'⟩
theorem lw_X_read (J : lwJ K ad ad' T1 T2 h) {x1 x2 : Int32} {F : Int32 → zm_H → Prop} (kk : ∀ x T' h', lw_pi T1 (some (.int x)) T' → lwJ K ad ad' T' T2 h' → F x h') : zm_rc h (ad 0) 8 ∧ zm_ci K M_X8_read [.ref (ad 0), .int x1, .int x2] h F :=
  J.ci (P := lw_pi T1) (fun _ _ p => p.i) (fun sw rw hX X => ⟨_, k_X8_read X, fun r h' q => by
    obtain ⟨b, rw', X'⟩ := q
    exact ⟨sw, rw', _, ⟨b, rfl⟩, X'⟩⟩) kk
theorem lw_M_read (J : lwJ K ad ad' T1 T2 h) {x1 x2 : Int32} {F : Int32 → zm_H → Prop} (kk : ∀ x T' h', lw_pi T2 (some (.int x)) T' → lwJ K ad ad' T1 T' h' → F x h') : zm_rc h (ad' 0) 9 ∧ zm_ci K M_X9_read [.ref (ad' 0), .int x1, .int x2] h F :=
  J.mi (P := lw_pi T2) (fun _ _ p => p.i) (fun s hM Y I => lw_Mi (r_read Y I)) kk
theorem lw_X_add (J : lwJ K ad ad' T1 T2 h) {x1 : Int32} {F : Int32 → zm_H → Prop} (kk : ∀ x T' h', lw_pi T1 (some (.int x)) T' → lwJ K ad ad' T' T2 h' → F x h') : zm_rc h (ad 0) 8 ∧ zm_ci K M_X8_add [.ref (ad 0), .int x1] h F :=
  J.ci (P := lw_pi T1) (fun _ _ p => p.i) (fun sw rw hX X => lw_Xi (k_X8_add X)) kk
theorem lw_M_add (J : lwJ K ad ad' T1 T2 h) {x1 : Int32} {F : Int32 → zm_H → Prop} (kk : ∀ x T' h', lw_pi T2 (some (.int x)) T' → lwJ K ad ad' T1 T' h' → F x h') : zm_rc h (ad' 0) 9 ∧ zm_ci K M_X9_add [.ref (ad' 0), .int x1] h F :=
  J.mi (P := lw_pi T2) (fun _ _ p => p.i) (fun s hM Y I => lw_Mi (r_add Y I)) kk
theorem lw_X_write (J : lwJ K ad ad' T1 T2 h) {x1 : Int32} {F : Int32 → zm_H → Prop} (kk : ∀ x T' h', lw_pi T1 (some (.int x)) T' → lwJ K ad ad' T' T2 h' → F x h') : zm_rc h (ad 0) 8 ∧ zm_ci K M_X8_write [.ref (ad 0), .int x1] h F :=
  J.ci (P := lw_pi T1) (fun _ _ p => p.i) (fun sw rw hX X => lw_Xi (k_X8_write X)) kk
theorem lw_M_write (J : lwJ K ad ad' T1 T2 h) {x1 : Int32} {F : Int32 → zm_H → Prop} (kk : ∀ x T' h', lw_pi T2 (some (.int x)) T' → lwJ K ad ad' T1 T' h' → F x h') : zm_rc h (ad' 0) 9 ∧ zm_ci K M_X9_write [.ref (ad' 0), .int x1] h F :=
  J.mi (P := lw_pi T2) (fun _ _ p => p.i) (fun s hM Y I => lw_Mi (r_write Y I)) kk
theorem lw_X_size (J : lwJ K ad ad' T1 T2 h) {F : Int32 → zm_H → Prop} (kk : ∀ x T' h', lw_pi T1 (some (.int x)) T' → lwJ K ad ad' T' T2 h' → F x h') : zm_rc h (ad 0) 8 ∧ zm_ci K M_X8_size [.ref (ad 0)] h F :=
  J.ci (P := lw_pi T1) (fun _ _ p => p.i) (fun sw rw hX X => lw_Xi (k_X8_size X)) kk
theorem lw_M_size (J : lwJ K ad ad' T1 T2 h) {F : Int32 → zm_H → Prop} (kk : ∀ x T' h', lw_pi T2 (some (.int x)) T' → lwJ K ad ad' T1 T' h' → F x h') : zm_rc h (ad' 0) 9 ∧ zm_ci K M_X9_size [.ref (ad' 0)] h F :=
  J.mi (P := lw_pi T2) (fun _ _ p => p.i) (fun s hM Y I => lw_Mi (r_size Y I)) kk
theorem lw_X_length (J : lwJ K ad ad' T1 T2 h) {x1 : Int32} {F : Int32 → zm_H → Prop} (kk : ∀ x T' h', lw_pi T1 (some (.int x)) T' → lwJ K ad ad' T' T2 h' → F x h') : zm_rc h (ad 0) 8 ∧ zm_ci K M_X8_length [.ref (ad 0), .int x1] h F :=
  J.ci (P := lw_pi T1) (fun _ _ p => p.i) (fun sw rw hX X => lw_Xi (k_X8_length X)) kk
theorem lw_M_length (J : lwJ K ad ad' T1 T2 h) {x1 : Int32} {F : Int32 → zm_H → Prop} (kk : ∀ x T' h', lw_pi T2 (some (.int x)) T' → lwJ K ad ad' T1 T' h' → F x h') : zm_rc h (ad' 0) 9 ∧ zm_ci K M_X9_length [.ref (ad' 0), .int x1] h F :=
  J.mi (P := lw_pi T2) (fun _ _ p => p.i) (fun s hM Y I => lw_Mi (r_length Y I)) kk
theorem lw_X_byteOf (J : lwJ K ad ad' T1 T2 h) {x1 x2 : Int32} {F : Int32 → zm_H → Prop} (kk : ∀ x T' h', lw_pi T1 (some (.int x)) T' → lwJ K ad ad' T' T2 h' → F x h') : zm_rc h (ad 0) 8 ∧ zm_ci K M_X8_byteOf [.ref (ad 0), .int x1, .int x2] h F :=
  J.ci (P := lw_pi T1) (fun _ _ p => p.i) (fun sw rw hX X => lw_Xi (k_X8_byteOf X)) kk
theorem lw_M_byteOf (J : lwJ K ad ad' T1 T2 h) {x1 x2 : Int32} {F : Int32 → zm_H → Prop} (kk : ∀ x T' h', lw_pi T2 (some (.int x)) T' → lwJ K ad ad' T1 T' h' → F x h') : zm_rc h (ad' 0) 9 ∧ zm_ci K M_X9_byteOf [.ref (ad' 0), .int x1, .int x2] h F :=
  J.mi (P := lw_pi T2) (fun _ _ p => p.i) (fun s hM Y I => lw_Mi (r_byteOf Y I)) kk
theorem lw_X_output (J : lwJ K ad ad' T1 T2 h) {x1 : Int32} {F : Int32 → zm_H → Prop} (kk : ∀ x T' h', lw_pi T1 (some (.int x)) T' → lwJ K ad ad' T' T2 h' → F x h') : zm_rc h (ad 0) 8 ∧ zm_ci K M_X8_output [.ref (ad 0), .int x1] h F :=
  J.ci (P := lw_pi T1) (fun _ _ p => p.i) (fun sw rw hX X => lw_Xi (k_X8_output X)) kk
theorem lw_M_output (J : lwJ K ad ad' T1 T2 h) {x1 : Int32} {F : Int32 → zm_H → Prop} (kk : ∀ x T' h', lw_pi T2 (some (.int x)) T' → lwJ K ad ad' T1 T' h' → F x h') : zm_rc h (ad' 0) 9 ∧ zm_ci K M_X9_output [.ref (ad' 0), .int x1] h F :=
  J.mi (P := lw_pi T2) (fun _ _ p => p.i) (fun s hM Y I => lw_Mi (r_output Y I)) kk
end LWJ
/-! new objects -/
theorem zm_one (v : Nat) (e : va_E) : zm_Mk (zm_set (fun _ => none) v e) [(v, e)] := ⟨List.nodup_cons.mpr ⟨List.not_mem_nil, List.nodup_nil⟩, fun p hp => by
  rw [List.mem_singleton.mp hp]
  exact zm_set_s _ _ _⟩
theorem zm_one_un {h : zm_H} {v : Nat} (e : va_E) (hv : h v = none) : zm_set h v e = zm_un (zm_set (fun _ => none) v e) h ∧ zm_dj (zm_set (fun _ => none) v e) h := by
  refine ⟨?_, fun q hq => ?_⟩
  · funext q
    by_cases z : q = v
    · subst z
      rw [zm_set_s, zm_un_l (zm_set_s _ _ _)]
    · rw [zm_set_n z, zm_un_r (zm_set_n z)]
  · by_cases z : q = v
    · subst z
      exact hv
    · exact absurd (zm_set_n z) hq
theorem lw_new {K : zm_K} {F : Nat → Nat → zm_H → Prop} (kk : ∀ ad ad' h, lwJ K ad ad' 0 0 h → F (ad 0) (ad' 0) h) : ∀ v1, (fun _ => none : zm_H) v1 = none → zm_cv K M_X8_init [.ref v1] (zm_set (fun _ => none) v1 (.inr (8, [.null, .null, .null, .null, .null, .null, .null]))) fun h1 => ∀ v2, h1 v2 = none → zm_cv K M_X9_init [.ref v2] (zm_set h1 v2 (.inr (9, mD0))) fun h2 => F v1 v2 h2 := by
  intro v1 _
  refine ⟨_, k_X8_init (zm_one v1 _), fun r h1 q => ?_⟩
  obtain ⟨rfl, ad, e0, X⟩ := q
  refine ⟨rfl, fun v2 hv => ?_⟩
  obtain ⟨e1, dj⟩ := zm_one_un (.inr (9, mD0)) hv
  rw [e1]
  refine ⟨_, zm_frame (r_init (zm_one v2 _)) dj, fun r h2 q => ?_⟩
  obtain ⟨h1', ⟨rfl, ad', e2, Y⟩, dj2, rfl⟩ := q
  refine ⟨rfl, ?_⟩
  rw [← e0, ← e2]
  exact kk ad ad' _ ⟨false, false, s00, h1, h1', dj2.sy, zm_un_c dj2, X, Y, s00_I⟩
