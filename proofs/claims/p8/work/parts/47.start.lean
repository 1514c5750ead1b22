set_option maxHeartbeats 4000000 in
set_option maxRecDepth 100000 in
theorem lw_body {E : zm_E} {K : zm_K} (C : zm_Cx E K cL_law RL 9 196 600000 7302250 4) {b n : Nat} {xs : Nat → Int32} (X9 : zm_sX E b n xs) (Z9 : zm_lZ E b) (hn : n ≤ 3072) : zm_Go E 0 0 0 [(0, .ref b)] [] (fun _ => none) :=
  B_L_law_0 C X9 Z9 (by decide) (by decide) (lw_new (F := fun v1 v2 h2 => zm_Go E _ _ 18 [(0, .ref b), (1, .ref v1), (2, .ref v2), (3, .int (nI 0))] [] h2) fun ad ad' h J => lw_loop C X9 Z9 hn (by decide) (by decide) n 0 h (by omega) (Nat.zero_le _) ⟨0, J⟩)
theorem lw_nest : ∀ q ∈ zm_nest, Cond.methodLinkNest q.1 q.2.1 q.2.2.1 q.2.2.2 ∈ lw_tbl := by decide +kernel
set_option maxHeartbeats 4000000 in
set_option maxRecDepth 100000 in
theorem whole_start {p : Program} {e : Env} {s : State} {m : MethodId} {below : List Frame} {meth : Method} {c : Code} (l : Launch) {b L : Nat} {xs : Nat → Int32} (hL : L ≤ 3072) (C0 : lw_At p s m meth c b L xs) : W p l e room_1 s m #[Value.ref b] below meth c s.heap [] 0 0 (lw_Z below #[Value.ref b] s) (entryFrame m ([Value.ref b] : List Value).toArray 4) := by
  obtain ⟨hx, hb, hr, hml, hown, hts, hX, hbl, hlocks, hgv⟩ := id C0
  have hG : ∀ w ∈ wG, w.before #[Value.ref b] s = true := fun w hw => hts w (List.mem_filter.mp hw).1
  obtain ⟨c0, j0, n0⟩ := u_known (C := RX0) (T := TX0) (N := 2) (n := 2) hG zi_X0 (hG (.instantiable RX0 2) (zm_inG (by decide +kernel) rfl))
  obtain ⟨c1, j1, n1⟩ := u_known (C := RX1) (T := TX1) (N := 3) (n := 3) hG zi_X1 (hG (.instantiable RX1 3) (zm_inG (by decide +kernel) rfl))
  obtain ⟨c2, j2, n2⟩ := u_known (C := RX2) (T := TX2) (N := 6) (n := 6) hG zi_X2 (hG (.instantiable RX2 6) (zm_inG (by decide +kernel) rfl))
  obtain ⟨c3, j3, n3⟩ := u_known (C := RX3) (T := TX3) (N := 5) (n := 5) hG zi_X3 (hG (.instantiable RX3 5) (zm_inG (by decide +kernel) rfl))
  obtain ⟨c4, j4, n4⟩ := u_known (C := RX4) (T := TX4) (N := 3) (n := 3) hG zi_X4 (hG (.instantiable RX4 3) (zm_inG (by decide +kernel) rfl))
  obtain ⟨c5, j5, n5⟩ := u_known (C := RX5) (T := TX5) (N := 3) (n := 3) hG zi_X5 (hG (.instantiable RX5 3) (zm_inG (by decide +kernel) rfl))
  obtain ⟨c6, j6, n6⟩ := u_known (C := RX6) (T := TX6) (N := 2) (n := 2) hG zi_X6 (hG (.instantiable RX6 2) (zm_inG (by decide +kernel) rfl))
  obtain ⟨c7, j7, n7⟩ := u_known (C := RX7) (T := TX7) (N := 4) (n := 4) hG zi_X7 (hG (.instantiable RX7 4) (zm_inG (by decide +kernel) rfl))
  obtain ⟨c8, j8, n8⟩ := u_known (C := RX8) (T := TX8) (N := 7) (n := 7) hG zi_X8 (hG (.instantiable RX8 7) (zm_inG (by decide +kernel) rfl))
  obtain ⟨c9, j9, n9⟩ := u_known (C := RX9) (T := TX9) (N := 23) (n := 23) hG zi_X9 (hG (.instantiable RX9 23) (zm_inG (by decide +kernel) rfl))
  obtain ⟨dC, dI, hKc⟩ : ∃ (dC : Nat → ClassId) (dI : Nat → Nat → Nat), ∀ (k : Nat) (q : vw_C), vwCl[k]? = some q → u_Kn s q.1 q.2.1 q.2.2 (dC k) (dI k) := by
    refine ⟨fun k => match k with | 0 => c0 | 1 => c1 | 2 => c2 | 3 => c3 | 4 => c4 | 5 => c5 | 6 => c6 | 7 => c7 | 8 => c8 | _ => c9, fun k => match k with | 0 => j0 | 1 => j1 | 2 => j2 | 3 => j3 | 4 => j4 | 5 => j5 | 6 => j6 | 7 => j7 | 8 => j8 | _ => j9, ?_⟩
    intro k q hq
    match k, hq with
    | 0, hq => cases hq; exact n0
    | 1, hq => cases hq; exact n1
    | 2, hq => cases hq; exact n2
    | 3, hq => cases hq; exact n3
    | 4, hq => cases hq; exact n4
    | 5, hq => cases hq; exact n5
    | 6, hq => cases hq; exact n6
    | 7, hq => cases hq; exact n7
    | 8, hq => cases hq; exact n8
    | 9, hq => cases hq; exact n9
    | k + 10, hq => exact absurd (List.getElem?_eq_some_iff.mp hq).1 (by show ¬ k + 10 < 10; omega)
  obtain ⟨cB, kB, oB, fB, gB, qB⟩ := Cond.arrayClass_spec (hts (.arrayClass .byte) (by decide +kernel))
  obtain ⟨cI, kI, oI, fI, gI, qI⟩ := Cond.arrayClass_spec (hts (.arrayClass .int) (by decide +kernel))
  obtain ⟨cL, kL, oL, fL, gL, qL⟩ := Cond.arrayClass_spec (hts (.arrayClass .long) (by decide +kernel))
  obtain ⟨cA, e0, e1, e2⟩ : ∃ cA : Nat → ClassId, cA 0 = cB ∧ cA 1 = cI ∧ cA 2 = cL := ⟨fun k => match k with | 0 => cB | 1 => cI | _ => cL, rfl, rfl, rfl⟩
  have hK : va_K (dC, dI) vwCl (zm_ty cA) s := by
    refine ⟨hKc, fun k q hq => ?_⟩
    match k, hq with
    | 0, hq => cases hq; rw [e0]; exact ⟨fun n z => ⟨fun k h => (by cases h), kB, gB, oB, qB⟩, fB⟩
    | 1, hq => cases hq; rw [e1]; exact ⟨fun n z => ⟨fun k h => (by cases h), kI, gI, oI, qI⟩, fI⟩
    | 2, hq => cases hq; rw [e2]; exact ⟨fun n z => ⟨fun k h => (by cases h), kL, gL, oL, qL⟩, fL⟩
    | k + 3, hq => exact absurd (List.getElem?_eq_some_iff.mp hq).1 (by show ¬ k + 3 < 3; omega)
  have hnw : zm_nw s := fun q hq => va_Nw.of rfl (hts _ (lw_nest q hq))
  have hbA : ¬ (fun q : Nat => s.heap.size ≤ q) b := Nat.not_le.mpr hbl
  have Cx : zm_Cx (p, l, e, room_1, s, m, #[Value.ref b], below, meth, c, (dC, dI), cA, fun q => s.heap.size ≤ q, 4, lw_Z below #[Value.ref b] s) (l, (dC, dI), cA) cL_law RL 9 196 600000 7302250 4 := ⟨⟨hx, hb, hml, hown, hG⟩, hlocks, hK, fun q hq => hq, hnw, Nat.le_of_ble_eq_true rfl, Nat.le_of_ble_eq_true rfl, rfl, rfl, rfl, rfl⟩
  have key := lw_body Cx (b := b) (n := L) (xs := xs) ⟨hX, hbl, hbA⟩ ⟨rfl, rfl, fun q hq => hq, hr, rfl⟩ hL
  have hl := lv_entry ([.ref b]) (n := 4) (Nat.le_of_ble_eq_true rfl)
  rw [lg_entry_eq]
  exact key s.heap [] _ [] hl ⟨fun a e he => (by cases he), fun k a e he => (by cases he)⟩ (fun k q hq => (by cases hq)) ⟨fun i j p q hi => (by cases hi), fun k q hk => (by cases hk)⟩ va_S.rf
set_option maxHeartbeats 4000000 in
theorem lw_walk (l : Launch) (b : Addr) (xs : List Int32) : MetFree l x (headSpec (Jvm.Cond.code x code maxLocals ret :: tables_1) room_1) (lw_P b xs) (fun _ _ _ _ _ => True) lw_Q := by
  refine MetFree.of_bodyS (code := code) (maxLocals := maxLocals) (ret := ret) (by decide) ?_ ?_
  · intro args s m h hn
    obtain ⟨meth, c, h1, h2, h3, h4, h5, h6, -, -⟩ := Cond.code_spec hn (atoms_spec (ws := Jvm.Cond.code x code maxLocals ret :: tables_1) h _ List.mem_cons_self)
    exact ⟨meth, c, h1, h2, h3, h4, h5, h6⟩
  · intro p e s m args below meth c s₁ B hml0 hP _
    obtain ⟨rfl, hx, hbd, hgv⟩ := hP
    obtain ⟨scr, harrAt, hlist, hof, hsmall⟩ := hx
    obtain ⟨hcb, hkn, -, -⟩ := State.arrayAt?_spec harrAt
    have hown : s.vm.findClass R_law = some m.cls := findClass_of_methodNamed B.named
    have hts0 : ∀ c ∈ (Jvm.Cond.code x code maxLocals ret :: tables_1), c.before #[Value.ref b] s = true := atoms_spec (ws := Jvm.Cond.code x code maxLocals ret :: tables_1) B.pre
    have hts : ∀ w ∈ lw_tbl, w.before #[Value.ref b] s = true := k2_hts_sels lw_privs (fun w hw => hts0 w (List.mem_cons_of_mem _ hw)) lw_privs_ok
    have hml : c.maxLocals = 4 := B.maxLocals_eq (hts0 _ List.mem_cons_self)
    have X₀ : Stand p l e room_1 s m #[Value.ref b] below meth c s₁ [] 0 0 := Stand.of_body B
    have hh0 : s₁.heap = s.heap := by rw [B.state]; rfl
    have hsz : scr.slots.size = xs.length := by rw [← Array.length_toList, hlist, List.length_map]
    have hval : ∀ j : Nat, j < xs.length → scr.slots[j]? = some (.int (xs.getD j 0)) := fun j hj => by
      rw [← Array.getElem?_toList, hlist]
      simp [hj]
    have hbl : b < s.heap.size := (Array.getElem?_eq_some_iff.mp hcb).1
    have hX : va_X b xs.length (fun j => xs.getD j 0) s s.heap := ⟨scr, hcb, hof, hkn, hsz, hval⟩
    have K : W p l e room_1 s m #[Value.ref b] below meth c s₁.heap [] 0 0 (lw_Z below #[Value.ref b] s) (entryFrame m ([Value.ref b] : List Value).toArray 4) := by
      rw [hh0]
      exact whole_start l hbd ⟨B.exec, B.bytes, B.returns, hml, hown, hts, hX, hbl, B.notSynchronized, hgv⟩
    obtain ⟨t, a1, o, b1, b2, b3⟩ := K s₁ rfl X₀
    exact ⟨t, o, a1, b1, b2, b3⟩
theorem lw_pre_spec {args : Array Value} {s : State} (h : (Jvm.Cond.and given_1 narrow_1).before args s = true) (hr : rest_1_c.before args s = true) : ∃ (b : Addr) (xs : List Int32), lw_P b xs args s := by
  have hs := flat_of_before _ h
  have hq := flat_of_before _ hr
  have hc : (Cond.count 1).before args s = true := hs _ (by decide +kernel)
  have harr : (Cond.arrayOf (.arg 0) .int).before args s = true := hs _ (by decide +kernel)
  have hle : (Cond.le (.length (.arg 0)) (.int 3072)).before args s = true := hs _ (by decide +kernel)
  have hlen : (Cond.isInt (.length (.arg 0))).before args s = true := hq _ (by decide +kernel)
  have hall : (Cond.all (.arg 0) (.isInt (.elem (.arg 0) (.index 0)))).before args s = true := hq _ (by decide +kernel)
  obtain ⟨b, xs, hb, hx⟩ := State.ints_of_pre rfl harr hlen hall
  have hsm : xs.length < 2 ^ 31 := hx.choose_spec.2.2.2
  have hev : (Term.length (.arg 0)).eval args s none [] s = some (.int xs.length.toInt32) := hx.length_eval hb
  have hv := Cond.le_ints hev (show (Term.int 3072).eval args s none [] s = some (.int 3072) from rfl)
  have hd : xs.length.toInt32 ≤ 3072 := by
    simpa [Cond.before, Cond.holds, hv] using hle
  have hN : xs.length ≤ 3072 := (Int32.ofNat_le_ofNat hsm (by decide)).mp (show Int32.ofNat xs.length ≤ Int32.ofNat 3072 from hd)
  exact ⟨b, xs, Cond.one_arg hc (show args[0]? = some (.ref b) from hb), hx, hN, h⟩
theorem lw_comes (l : Launch) : Comes l x (Jvm.Cond.code x code maxLocals ret :: tables_1) room_1 (fun tb e args s => Calls_1 tb e args s ∧ rest_1 tb e args s ∧ Pre_1 tb e args s)
    (fun _ _ args s o t => lw_Q args s o t) := by
  intro p e ha hc hk s m args below hf hfit hheap happ hpre
  obtain ⟨b, xs, hP⟩ := lw_pre_spec hpre.2.2 hpre.2.1
  obtain ⟨k, o, h1, h2, h3, hQ⟩ := lw_walk l b xs p e ha hc hk s m args below hf ((Spec.applies_iff_loose hf).mp happ).1 hP trivial
  exact ⟨k, o, h1, h2, h3, hQ⟩
theorem lw_frame {s t : State} {o : Outcome} {args : Array Value} (h : Framed s o t [] 600000 7302250) :
    Framed s o t (fieldLocs frame_1_writes args s ++ arrayLocs frame_1_arrays args s ++ staticLocs frame_1_statics s) 600000 7302250 := h
theorem lw_limb (L : Cond) (hL : ∀ (args : Array Value) (s t : State), L.after args s (.returned (some (.int 1))) t = true) :
    ArmFor flags0 classFile x code maxLocals ret World_1 tables_1 room_1 Calls_1 rest_1 Pre_1
      (fun tb e a s o t => postC L tb e a s o t ∧ Framed s o t (fieldLocs frame_1_writes a s ++ arrayLocs frame_1_arrays a s ++ staticLocs frame_1_statics s) 600000 7302250) := by
  intro l _ _ _ p e ha hc hk s m args below hf hfit hheap happ hpre
  obtain ⟨k, o, h1, h2, h3, rfl, hF⟩ := lw_comes l p e ha hc hk s m args below hf hfit hheap happ hpre
  exact ⟨k, _, h1, h2, h3, hL args s _, lw_frame hF⟩
theorem i_vc : Claimed_1_1 ∧ Claimed_1_2 := ⟨lw_limb limb_1_1 (fun args s t => by simp [limb_1_1, Cond.after, Cond.holds, Cond.value]), lw_limb limb_1_2 (fun args s t => Cond.after_iff.mpr (by
  first | (rw [show limb_1_2 = Cond.eq .result (.int 1) from rfl, Cond.eq_ints (x := 1) (y := 1) rfl rfl]; simp; done) | (simp [limb_1_2, Cond.value, Term.eval]; done)))⟩
