/-! A small machine over the kit's rows: a heap is a map from addresses to cells; a state is pc, listed locals, stack, heap. -/
abbrev zm_H : Type := Nat → Option va_E
def zm_set (h : zm_H) (a : Nat) (e : va_E) : zm_H := fun q => if q = a then some e else h q
theorem zm_set_s (h : zm_H) (a : Nat) (e : va_E) : zm_set h a e a = some e := if_pos rfl
theorem zm_set_n {h : zm_H} {a b : Nat} {e : va_E} (hb : b ≠ a) : zm_set h a e b = h b := if_neg hb
/-- h is what the list ws holds -/
def zm_Ag (h : zm_H) (ws : va_W) : Prop := (∀ a e, h a = some e → ∃ k : Nat, ws[k]? = some (a, e)) ∧ ∀ (k : Nat) a e, ws[k]? = some (a, e) → h a = some e
theorem zm_Ag.set {h : zm_H} {ws : va_W} {A : Nat → Prop} {k a : Nat} {e0 e : va_E} (hag : zm_Ag h ws) (hD : va_D A ws) (hk : ws[k]? = some (a, e0)) : zm_Ag (zm_set h a e) (ws.set k (a, e)) := by
  have hl := (List.getElem?_eq_some_iff.mp hk).1
  refine ⟨fun b e' hb => ?_, fun j b e' hj => ?_⟩
  · by_cases hba : b = a
    · subst hba
      rw [zm_set_s] at hb
      cases hb
      exact ⟨k, List.getElem?_set_self hl⟩
    · rw [zm_set_n hba] at hb
      obtain ⟨j, hj⟩ := hag.1 b e' hb
      have hjk : j ≠ k := fun q => by
        subst q
        rw [hk] at hj
        cases hj
        exact hba rfl
      exact ⟨j, by rw [List.getElem?_set_ne (Ne.symm hjk)]; exact hj⟩
  · by_cases hjk : j = k
    · subst hjk
      rw [List.getElem?_set_self hl] at hj
      cases hj
      exact zm_set_s h a e
    · rw [List.getElem?_set_ne (Ne.symm hjk)] at hj
      have hba : b ≠ a := fun q => hjk (hD.1 j k (b, e') (a, e0) hj hk q)
      rw [zm_set_n hba]
      exact hag.2 j b e' hj
theorem zm_Ag.fresh {h : zm_H} {ws : va_W} {A : Nat → Prop} {a : Nat} {e : va_E} (hag : zm_Ag h ws) (hD : va_D A (ws ++ [(a, e)])) : h a = none := by
  cases hq : h a with
  | none => rfl
  | some e1 =>
    obtain ⟨k, hk⟩ := hag.1 a e1 hq
    have hl := (List.getElem?_eq_some_iff.mp hk).1
    have h1 : (ws ++ [(a, e)])[k]? = some (a, e1) := by rw [List.getElem?_append_left hl]; exact hk
    have h2 : (ws ++ [(a, e)])[ws.length]? = some (a, e) := by rw [List.getElem?_append_right (Nat.le_refl _), Nat.sub_self]; rfl
    have h3 := hD.1 k ws.length _ _ h1 h2 rfl
    omega
theorem zm_Ag.push {h : zm_H} {ws : va_W} {a : Nat} {e : va_E} (hag : zm_Ag h ws) (hq : h a = none) : zm_Ag (zm_set h a e) (ws ++ [(a, e)]) := by
  refine ⟨fun b e' hb => ?_, fun j b e' hj => ?_⟩
  · by_cases hba : b = a
    · subst hba
      rw [zm_set_s] at hb
      cases hb
      exact ⟨ws.length, by rw [List.getElem?_append_right (Nat.le_refl _), Nat.sub_self]; rfl⟩
    · rw [zm_set_n hba] at hb
      obtain ⟨j, hj⟩ := hag.1 b e' hb
      have hl := (List.getElem?_eq_some_iff.mp hj).1
      exact ⟨j, by rw [List.getElem?_append_left hl]; exact hj⟩
  · by_cases hl : j < ws.length
    · rw [List.getElem?_append_left hl] at hj
      have h1 := hag.2 j b e' hj
      have hba : b ≠ a := fun q => by
        subst q
        rw [hq] at h1
        cases h1
      rw [zm_set_n hba]
      exact h1
    · rw [List.getElem?_append_right (by omega)] at hj
      have hz : j - ws.length < 1 := (List.getElem?_eq_some_iff.mp hj).1
      rw [show j - ws.length = 0 by omega] at hj
      cases hj
      exact zm_set_s h a e
/-- the words that every method may use -/
def wG : List Cond := lw_tbl.filter (fun w => k2_isCode w || goodWord w)
theorem zm_inG {w : Cond} (h : w ∈ lw_tbl) (hg : (k2_isCode w || goodWord w) = true) : w ∈ wG := List.mem_filter.mpr ⟨h, hg⟩
theorem zm_good {w : Cond} (h : w ∈ wG) : (w.onTables && w.keeps) = true ∨ ∃ ty, w = .arrayClass ty := by
  have h1 := (List.mem_filter.mp h).2
  rcases Bool.or_eq_true_iff.mp h1 with hc | hc
  · cases w <;> first | (simp [k2_isCode] at hc; done) | exact Or.inl rfl
  · exact good_of_word hc
theorem zm_goodIn {ws : List Cond} (h : ∀ w ∈ ws, w ∈ wG) : GoodIn wG ws := fun w hw => ⟨h w hw, zm_good (h w hw)⟩
/-- private members of nest mates -/
def zm_nw (U : State) : Prop := ∀ q ∈ zm_nest, va_Nw (.methodLinkNest q.1 q.2.1 q.2.2.1 q.2.2.2) U
theorem zm_nw.warm {s U : State} (hW : s.WarmedH U.vm) (h : zm_nw s) : zm_nw U := fun q hq => va_Nw.warmM hW (h q hq)
theorem zm_nw.same {s U : State} (hv : s.vm = U.vm) (h : zm_nw s) : zm_nw U := fun q hq => va_Nw.same rfl hv (h q hq)
def zm_ty (cA : Nat → ClassId) : List (ClassId × FieldType) := [(cA 0, .byte), (cA 1, .int), (cA 2, .long)]
abbrev zm_K : Type := Launch × va_G × (Nat → ClassId)
/-- a method: name, code, its locals, its answer's type, frames below it, words below it, cells, slots -/
abbrev zm_M : Type := MethodName × ByteArray × Nat × Option FieldType × Nat × Nat × Nat × Nat
def zm_rm (d lo mc ms : Nat) : Room := { frames := d, cells := mc, slots := ms, locals := lo }
def zm_A (h : zm_H) (sz : Nat) : Nat → Prop := fun q => h q ≠ none ∨ sz ≤ q
abbrev zm_Po : Type := Option Value → zm_H → Prop
def zm_Qc (D : va_G) (h : zm_H) (sz : Nat) (Post : zm_Po) : Array Value → State → Outcome → State → Prop := fun _ st o t =>
  (∃ (r : Option Value) (h' : zm_H), o = .returned r ∧ Post r h' ∧ ∃ ws : va_W, zm_Ag h' ws ∧ va_P D vwCl ws t.heap ∧ va_D (zm_A h sz) ws) ∧ va_F (zm_A h sz) st t
def zm_Pc (K : zm_K) (h : zm_H) (sz : Nat) (as : List Value) : Array Value → State → Prop := va_Pc as (fun U => U.heap.size = sz ∧ (∃ ws : va_W, zm_Ag h ws ∧ va_P K.2.1 vwCl ws U.heap ∧ va_D (fun _ => True) ws) ∧ va_K K.2.1 vwCl (zm_ty K.2.2) U ∧ zm_nw U)
/-- a contract -/
def zm_Ct (K : zm_K) (M : zm_M) (as : List Value) (h : zm_H) (Post : zm_Po) : Prop :=
  ∀ sz : Nat, Met K.1 M.1 (.code M.1 M.2.1 M.2.2.1 M.2.2.2.1 :: wG) (zm_rm M.2.2.2.2.1 M.2.2.2.2.2.1 M.2.2.2.2.2.2.1 M.2.2.2.2.2.2.2) (zm_Pc K h sz as) (zm_Qc K.2.1 h sz Post) M.2.2.2.2.2.2.1 M.2.2.2.2.2.2.2 (zm_A h sz)
theorem zm_blind (K : zm_K) (h : zm_H) (sz : Nat) (as : List Value) : FrameBlind (zm_Pc K h sz as) := by
  intro a U g mk q
  obtain ⟨q0, q1, q2, q3, q4⟩ := q
  exact ⟨q0, q1, q2, va_K.moved (u := U) (U := U.calling g mk a) (Vm.Alike.refl U.vm) q3, zm_nw.same (U := U.calling g mk a) rfl q4⟩
/-- where a method's walk is: the machine, the launch, the world's class numbers, what may change, how many locals, what is to come -/
abbrev zm_E : Type := Program × Launch × Env × Room × State × MethodId × Array Value × List Frame × Method × Code × va_G × (Nat → ClassId) × (Nat → Prop) × Nat × (State → Prop)
def zm_Go : zm_E → Nat → Nat → Nat → List (Nat × Value) → List Value → zm_H → Prop
  | (p, l, e, R, s, m, args, below, meth, c, D, _, A, nL, Q), nc, ns, pc, L, st, h => ∀ (H : Heap) (locs : List Loc) (ls : Array Slot) (ws : va_W), lv_has ls nL L → zm_Ag h ws → va_P D vwCl ws H → va_D A ws → va_S A s.heap H locs → W p l e R s m args below meth c H locs nc ns Q (F0 m pc ls st)
/-- what stays true on a method's walk -/
def zm_Cx : zm_E → zm_K → ByteArray → String → Nat → Nat → Nat → Nat → Nat → Prop
  | (p, l, _, R, s, m, args, _, meth, c, D, cA, A, nL, _), K, cc, own, d, lo, rc, rs, nl => CallFix p m c cc nL s args wG own ∧ meth.locks = false ∧ va_K D vwCl (zm_ty cA) s ∧ (∀ q, s.heap.size ≤ q → A q) ∧ zm_nw s ∧ d ≤ R.frames ∧ lo ≤ R.locals ∧ R.cells = rc ∧ R.slots = rs ∧ nL = nl ∧ K = (l, D, cA)
/-- what is to come is the contract's end -/
def zm_Rt : zm_E → zm_Po → Nat → Nat → Option FieldType → Prop
  | (_, _, _, _, s, _, args, below, meth, _, D, _, A, _, Q), Post, mc, ms, rt => meth.sig.returnType = rt ∧ ∃ h0 : zm_H, A = zm_A h0 s.heap.size ∧ Q = MQ below (zm_Qc D h0 s.heap.size Post) args s mc ms (zm_A h0 s.heap.size)
def zm_in (E : zm_E) : Prop := match E with
  | (_, _, _, _, _, _, _, _, meth, _, _, _, _, _, _) => meth.name = "<init>"
theorem zm_meet {K : zm_K} {M : zm_M} {as : List Value} {h : zm_H} {Post : zm_Po} (hy : plainName M.1.cls = true) (hl : (lg_sl as).length ≤ M.2.2.1)
    (body : ∀ E : zm_E, zm_Cx E K M.2.1 M.1.cls M.2.2.2.2.1 M.2.2.2.2.2.1 M.2.2.2.2.2.2.1 M.2.2.2.2.2.2.2 M.2.2.1 → zm_Rt E Post M.2.2.2.2.2.2.1 M.2.2.2.2.2.2.2 M.2.2.2.1 → (M.1.name = "<init>" → zm_in E) → zm_Go E 0 0 0 (lv_args 0 as) [] h) : zm_Ct K M as h Post := by
  obtain ⟨l, D, cA⟩ := K
  obtain ⟨y, cc, maxL, ret, d, lo, mc, ms⟩ := M
  intro sz
  refine Met.ofW (cc := cc) (maxL := maxL) (ret := ret) hy rfl ?_
  intro p e s m args below meth c s₁ B hml hv
  obtain ⟨rfl, hsz, ⟨ws, hag, hP, hD0⟩, hK, hnw⟩ := hv
  subst hsz
  have hts := atoms_spec (ws := Cond.code y cc maxL ret :: wG) B.pre
  have hown : s.vm.findClass y.cls = some m.cls := findClass_of_methodNamed B.named
  rw [lg_entry_eq]
  have hlv := lv_entry as (n := maxL) hl
  have key := body (p, l, e, (headSpec (Cond.code y cc maxL ret :: wG) (zm_rm d lo mc ms)).room, s, m, as.toArray, below, meth, c, D, cA, zm_A h s.heap.size, maxL, MQ below (zm_Qc D h s.heap.size Post) as.toArray s mc ms (zm_A h s.heap.size))
    ⟨⟨B.exec, B.bytes, hml, hown, fun w hw => hts w (List.mem_cons_of_mem _ hw)⟩, B.notSynchronized, hK, fun q hq => Or.inr hq, hnw, Nat.le_refl _, Nat.le_refl _, rfl, rfl, rfl, rfl⟩ ⟨B.returns, h, rfl, rfl⟩ (fun hn => (name_of_methodNamed B.named B.method).1.trans hn)
  exact key s.heap [] _ ws hlv hag hP ⟨hD0.1, fun k q hk => Or.inl (by obtain ⟨a, e1⟩ := q; rw [hag.2 k a e1 hk]; exact fun z => by cases z)⟩ va_S.rf
section ZMI
variable {E : zm_E} {cc : ByteArray} {own : String} {K : zm_K} {d lo rc rs nl nc ns pc : Nat} {L L' : List (Nat × Value)} {st : List Value} {h : zm_H}
theorem zm_loc (ks : List Nat) (hk : lv_pick L ks = L') (k : zm_Go E nc ns pc L' st h) : zm_Go E nc ns pc L st h := by
  obtain ⟨p, l, e, R, s, m, args, below, meth, c, D, cA, A, nL, Q⟩ := E
  intro H locs ls ws hl hag hP hD hS
  exact k H locs ls ws (lv_sub hl ks hk) hag hP hD hS
theorem zm_wide {k n : Nat} (h1 : nc ≤ k) (h2 : ns ≤ n) (kk : zm_Go E k n pc L st h) : zm_Go E nc ns pc L st h := by
  obtain ⟨p, l, e, R, s, m, args, below, meth, c, D, cA, A, nL, Q⟩ := E
  intro H locs ls ws hl hag hP hD hS
  exact W.widen h1 h2 (kk H locs ls ws hl hag hP hD hS)
theorem zm_iadd (C : zm_Cx E K cc own d lo rc rs nl) {x y : Int32} (hd : decode cc pc = .ok (.iadd, 1)) (k : zm_Go E nc ns (pc + 1) L (.int (x + y) :: st) h) : zm_Go E nc ns pc L (.int y :: .int x :: st) h := by
  obtain ⟨p, l, e, R, s, m, args, below, meth, c, D, cA, A, nL, Q⟩ := E
  intro H locs ls ws hl hag hP hD hS
  exact lv_iadd C.1.1 C.1.2.1 hd (k H locs ls ws hl hag hP hD hS)
theorem zm_isub (C : zm_Cx E K cc own d lo rc rs nl) {x y : Int32} (hd : decode cc pc = .ok (.isub, 1)) (k : zm_Go E nc ns (pc + 1) L (.int (x - y) :: st) h) : zm_Go E nc ns pc L (.int y :: .int x :: st) h := by
  obtain ⟨p, l, e, R, s, m, args, below, meth, c, D, cA, A, nL, Q⟩ := E
  intro H locs ls ws hl hag hP hD hS
  exact lv_isub C.1.1 C.1.2.1 hd (k H locs ls ws hl hag hP hD hS)
theorem zm_imul (C : zm_Cx E K cc own d lo rc rs nl) {x y : Int32} (hd : decode cc pc = .ok (.imul, 1)) (k : zm_Go E nc ns (pc + 1) L (.int (x * y) :: st) h) : zm_Go E nc ns pc L (.int y :: .int x :: st) h := by
  obtain ⟨p, l, e, R, s, m, args, below, meth, c, D, cA, A, nL, Q⟩ := E
  intro H locs ls ws hl hag hP hD hS
  exact lv_imul C.1.1 C.1.2.1 hd (k H locs ls ws hl hag hP hD hS)
theorem zm_iand (C : zm_Cx E K cc own d lo rc rs nl) {x y : Int32} (hd : decode cc pc = .ok (.iand, 1)) (k : zm_Go E nc ns (pc + 1) L (.int (x &&& y) :: st) h) : zm_Go E nc ns pc L (.int y :: .int x :: st) h := by
  obtain ⟨p, l, e, R, s, m, args, below, meth, c, D, cA, A, nL, Q⟩ := E
  intro H locs ls ws hl hag hP hD hS
  exact lv_iand C.1.1 C.1.2.1 hd (k H locs ls ws hl hag hP hD hS)
theorem zm_ior (C : zm_Cx E K cc own d lo rc rs nl) {x y : Int32} (hd : decode cc pc = .ok (.ior, 1)) (k : zm_Go E nc ns (pc + 1) L (.int (x ||| y) :: st) h) : zm_Go E nc ns pc L (.int y :: .int x :: st) h := by
  obtain ⟨p, l, e, R, s, m, args, below, meth, c, D, cA, A, nL, Q⟩ := E
  intro H locs ls ws hl hag hP hD hS
  exact lv_ior C.1.1 C.1.2.1 hd (k H locs ls ws hl hag hP hD hS)
theorem zm_ixor (C : zm_Cx E K cc own d lo rc rs nl) {x y : Int32} (hd : decode cc pc = .ok (.ixor, 1)) (k : zm_Go E nc ns (pc + 1) L (.int (x ^^^ y) :: st) h) : zm_Go E nc ns pc L (.int y :: .int x :: st) h := by
  obtain ⟨p, l, e, R, s, m, args, below, meth, c, D, cA, A, nL, Q⟩ := E
  intro H locs ls ws hl hag hP hD hS
  exact lv_ixor C.1.1 C.1.2.1 hd (k H locs ls ws hl hag hP hD hS)
theorem zm_ishl (C : zm_Cx E K cc own d lo rc rs nl) {x y : Int32} (hd : decode cc pc = .ok (.ishl, 1)) (k : zm_Go E nc ns (pc + 1) L (.int (x <<< (y &&& 31)) :: st) h) : zm_Go E nc ns pc L (.int y :: .int x :: st) h := by
  obtain ⟨p, l, e, R, s, m, args, below, meth, c, D, cA, A, nL, Q⟩ := E
  intro H locs ls ws hl hag hP hD hS
  exact lv_ishl C.1.1 C.1.2.1 hd (k H locs ls ws hl hag hP hD hS)
theorem zm_ishr (C : zm_Cx E K cc own d lo rc rs nl) {x y : Int32} (hd : decode cc pc = .ok (.ishr, 1)) (k : zm_Go E nc ns (pc + 1) L (.int (x >>> (y &&& 31)) :: st) h) : zm_Go E nc ns pc L (.int y :: .int x :: st) h := by
  obtain ⟨p, l, e, R, s, m, args, below, meth, c, D, cA, A, nL, Q⟩ := E
  intro H locs ls ws hl hag hP hD hS
  exact lv_ishr C.1.1 C.1.2.1 hd (k H locs ls ws hl hag hP hD hS)
theorem zm_idiv (C : zm_Cx E K cc own d lo rc rs nl) {x y : Int32} (hne : ¬ y = 0) (hd : decode cc pc = .ok (.idiv, 1)) (k : zm_Go E nc ns (pc + 1) L (.int (x / y) :: st) h) : zm_Go E nc ns pc L (.int y :: .int x :: st) h := by
  obtain ⟨p, l, e, R, s, m, args, below, meth, c, D, cA, A, nL, Q⟩ := E
  intro H locs ls ws hl hag hP hD hS
  exact lv_idiv C.1.1 C.1.2.1 hd hne (k H locs ls ws hl hag hP hD hS)
theorem zm_irem (C : zm_Cx E K cc own d lo rc rs nl) {x y : Int32} (hne : ¬ y = 0) (hd : decode cc pc = .ok (.irem, 1)) (k : zm_Go E nc ns (pc + 1) L (.int (x - x / y * y) :: st) h) : zm_Go E nc ns pc L (.int y :: .int x :: st) h := by
  obtain ⟨p, l, e, R, s, m, args, below, meth, c, D, cA, A, nL, Q⟩ := E
  intro H locs ls ws hl hag hP hD hS
  exact lv_irem C.1.1 C.1.2.1 hd hne (k H locs ls ws hl hag hP hD hS)
theorem zm_ineg (C : zm_Cx E K cc own d lo rc rs nl) {x : Int32} (hd : decode cc pc = .ok (.ineg, 1)) (k : zm_Go E nc ns (pc + 1) L (.int (-x) :: st) h) : zm_Go E nc ns pc L (.int x :: st) h := by
  obtain ⟨p, l, e, R, s, m, args, below, meth, c, D, cA, A, nL, Q⟩ := E
  intro H locs ls ws hl hag hP hD hS
  exact lv_ineg C.1.1 C.1.2.1 hd (k H locs ls ws hl hag hP hD hS)
theorem zm_lneg (C : zm_Cx E K cc own d lo rc rs nl) {x : Int64} (hd : decode cc pc = .ok (.lneg, 1)) (k : zm_Go E nc ns (pc + 1) L (.long (-x) :: st) h) : zm_Go E nc ns pc L (.long x :: st) h := by
  obtain ⟨p, l, e, R, s, m, args, below, meth, c, D, cA, A, nL, Q⟩ := E
  intro H locs ls ws hl hag hP hD hS
  exact lv_lneg C.1.1 C.1.2.1 hd (k H locs ls ws hl hag hP hD hS)
theorem zm_ladd (C : zm_Cx E K cc own d lo rc rs nl) {x y : Int64} (hd : decode cc pc = .ok (.ladd, 1)) (k : zm_Go E nc ns (pc + 1) L (.long (x + y) :: st) h) : zm_Go E nc ns pc L (.long y :: .long x :: st) h := by
  obtain ⟨p, l, e, R, s, m, args, below, meth, c, D, cA, A, nL, Q⟩ := E
  intro H locs ls ws hl hag hP hD hS
  exact lv_ladd C.1.1 C.1.2.1 hd (k H locs ls ws hl hag hP hD hS)
theorem zm_lsub (C : zm_Cx E K cc own d lo rc rs nl) {x y : Int64} (hd : decode cc pc = .ok (.lsub, 1)) (k : zm_Go E nc ns (pc + 1) L (.long (x - y) :: st) h) : zm_Go E nc ns pc L (.long y :: .long x :: st) h := by
  obtain ⟨p, l, e, R, s, m, args, below, meth, c, D, cA, A, nL, Q⟩ := E
  intro H locs ls ws hl hag hP hD hS
  exact lv_lsub C.1.1 C.1.2.1 hd (k H locs ls ws hl hag hP hD hS)
theorem zm_lmul (C : zm_Cx E K cc own d lo rc rs nl) {x y : Int64} (hd : decode cc pc = .ok (.lmul, 1)) (k : zm_Go E nc ns (pc + 1) L (.long (x * y) :: st) h) : zm_Go E nc ns pc L (.long y :: .long x :: st) h := by
  obtain ⟨p, l, e, R, s, m, args, below, meth, c, D, cA, A, nL, Q⟩ := E
  intro H locs ls ws hl hag hP hD hS
  exact lv_lmul C.1.1 C.1.2.1 hd (k H locs ls ws hl hag hP hD hS)
theorem zm_land (C : zm_Cx E K cc own d lo rc rs nl) {x y : Int64} (hd : decode cc pc = .ok (.land, 1)) (k : zm_Go E nc ns (pc + 1) L (.long (x &&& y) :: st) h) : zm_Go E nc ns pc L (.long y :: .long x :: st) h := by
  obtain ⟨p, l, e, R, s, m, args, below, meth, c, D, cA, A, nL, Q⟩ := E
  intro H locs ls ws hl hag hP hD hS
  exact lv_land C.1.1 C.1.2.1 hd (k H locs ls ws hl hag hP hD hS)
theorem zm_lor (C : zm_Cx E K cc own d lo rc rs nl) {x y : Int64} (hd : decode cc pc = .ok (.lor, 1)) (k : zm_Go E nc ns (pc + 1) L (.long (x ||| y) :: st) h) : zm_Go E nc ns pc L (.long y :: .long x :: st) h := by
  obtain ⟨p, l, e, R, s, m, args, below, meth, c, D, cA, A, nL, Q⟩ := E
  intro H locs ls ws hl hag hP hD hS
  exact lv_lor C.1.1 C.1.2.1 hd (k H locs ls ws hl hag hP hD hS)
theorem zm_lxor (C : zm_Cx E K cc own d lo rc rs nl) {x y : Int64} (hd : decode cc pc = .ok (.lxor, 1)) (k : zm_Go E nc ns (pc + 1) L (.long (x ^^^ y) :: st) h) : zm_Go E nc ns pc L (.long y :: .long x :: st) h := by
  obtain ⟨p, l, e, R, s, m, args, below, meth, c, D, cA, A, nL, Q⟩ := E
  intro H locs ls ws hl hag hP hD hS
  exact lv_lxor C.1.1 C.1.2.1 hd (k H locs ls ws hl hag hP hD hS)
theorem zm_ldiv (C : zm_Cx E K cc own d lo rc rs nl) {x y : Int64} (hne : ¬ y = 0) (hd : decode cc pc = .ok (.ldiv, 1)) (k : zm_Go E nc ns (pc + 1) L (.long (x / y) :: st) h) : zm_Go E nc ns pc L (.long y :: .long x :: st) h := by
  obtain ⟨p, l, e, R, s, m, args, below, meth, c, D, cA, A, nL, Q⟩ := E
  intro H locs ls ws hl hag hP hD hS
  exact lv_ldiv C.1.1 C.1.2.1 hd hne (k H locs ls ws hl hag hP hD hS)
theorem zm_lrem (C : zm_Cx E K cc own d lo rc rs nl) {x y : Int64} (hne : ¬ y = 0) (hd : decode cc pc = .ok (.lrem, 1)) (k : zm_Go E nc ns (pc + 1) L (.long (x - x / y * y) :: st) h) : zm_Go E nc ns pc L (.long y :: .long x :: st) h := by
  obtain ⟨p, l, e, R, s, m, args, below, meth, c, D, cA, A, nL, Q⟩ := E
  intro H locs ls ws hl hag hP hD hS
  exact lv_lrem C.1.1 C.1.2.1 hd hne (k H locs ls ws hl hag hP hD hS)
theorem zm_i2l (C : zm_Cx E K cc own d lo rc rs nl) {x : Int32} (hd : decode cc pc = .ok (.i2l, 1)) (k : zm_Go E nc ns (pc + 1) L (.long x.toInt64 :: st) h) : zm_Go E nc ns pc L (.int x :: st) h := by
  obtain ⟨p, l, e, R, s, m, args, below, meth, c, D, cA, A, nL, Q⟩ := E
  intro H locs ls ws hl hag hP hD hS
  exact lv_i2l C.1.1 C.1.2.1 hd rfl (k H locs ls ws hl hag hP hD hS)
theorem zm_l2i (C : zm_Cx E K cc own d lo rc rs nl) {x : Int64} (hd : decode cc pc = .ok (.l2i, 1)) (k : zm_Go E nc ns (pc + 1) L (.int x.toInt32 :: st) h) : zm_Go E nc ns pc L (.long x :: st) h := by
  obtain ⟨p, l, e, R, s, m, args, below, meth, c, D, cA, A, nL, Q⟩ := E
  intro H locs ls ws hl hag hP hD hS
  exact lv_l2i C.1.1 C.1.2.1 hd rfl (k H locs ls ws hl hag hP hD hS)
theorem zm_i2b (C : zm_Cx E K cc own d lo rc rs nl) {x : Int32} (hd : decode cc pc = .ok (.i2b, 1)) (k : zm_Go E nc ns (pc + 1) L (.int x.toInt8.toInt32 :: st) h) : zm_Go E nc ns pc L (.int x :: st) h := by
  obtain ⟨p, l, e, R, s, m, args, below, meth, c, D, cA, A, nL, Q⟩ := E
  intro H locs ls ws hl hag hP hD hS
  exact lv_i2b C.1.1 C.1.2.1 hd rfl (k H locs ls ws hl hag hP hD hS)
theorem zm_iushr (C : zm_Cx E K cc own d lo rc rs nl) {x y : Int32} (hd : decode cc pc = .ok (.iushr, 1)) (k : zm_Go E nc ns (pc + 1) L (.int (x.toUInt32 >>> (y.toUInt32 &&& Int32.toUInt32 31)).toInt32 :: st) h) : zm_Go E nc ns pc L (.int y :: .int x :: st) h := by
  obtain ⟨p, l, e, R, s, m, args, below, meth, c, D, cA, A, nL, Q⟩ := E
  intro H locs ls ws hl hag hP hD hS
  exact lv_iushr C.1.1 C.1.2.1 hd rfl (k H locs ls ws hl hag hP hD hS)
theorem zm_lushr (C : zm_Cx E K cc own d lo rc rs nl) {x : Int64} {y : Int32} (hd : decode cc pc = .ok (.lushr, 1)) (k : zm_Go E nc ns (pc + 1) L (.long (x.toUInt64 >>> (y.toInt64.toUInt64 &&& Int64.toUInt64 63)).toInt64 :: st) h) : zm_Go E nc ns pc L (.int y :: .long x :: st) h := by
  obtain ⟨p, l, e, R, s, m, args, below, meth, c, D, cA, A, nL, Q⟩ := E
  intro H locs ls ws hl hag hP hD hS
  exact lv_lushr C.1.1 C.1.2.1 hd rfl (k H locs ls ws hl hag hP hD hS)
theorem zm_lshl (C : zm_Cx E K cc own d lo rc rs nl) {x : Int64} {y : Int32} (hd : decode cc pc = .ok (.lshl, 1)) (k : zm_Go E nc ns (pc + 1) L (.long (x <<< (y.toInt64 &&& 63)) :: st) h) : zm_Go E nc ns pc L (.int y :: .long x :: st) h := by
  obtain ⟨p, l, e, R, s, m, args, below, meth, c, D, cA, A, nL, Q⟩ := E
  intro H locs ls ws hl hag hP hD hS
  exact lv_lshl C.1.1 C.1.2.1 hd rfl (k H locs ls ws hl hag hP hD hS)
theorem zm_lshr (C : zm_Cx E K cc own d lo rc rs nl) {x : Int64} {y : Int32} (hd : decode cc pc = .ok (.lshr, 1)) (k : zm_Go E nc ns (pc + 1) L (.long (x >>> (y.toInt64 &&& 63)) :: st) h) : zm_Go E nc ns pc L (.int y :: .long x :: st) h := by
  obtain ⟨p, l, e, R, s, m, args, below, meth, c, D, cA, A, nL, Q⟩ := E
  intro H locs ls ws hl hag hP hD hS
  exact lv_lshr C.1.1 C.1.2.1 hd rfl (k H locs ls ws hl hag hP hD hS)
theorem zm_lcmp (C : zm_Cx E K cc own d lo rc rs nl) {x y : Int64} (hd : decode cc pc = .ok (.lcmp, 1)) (k : zm_Go E nc ns (pc + 1) L (.int (lg_cmp x y) :: st) h) : zm_Go E nc ns pc L (.long y :: .long x :: st) h := by
  obtain ⟨p, l, e, R, s, m, args, below, meth, c, D, cA, A, nL, Q⟩ := E
  intro H locs ls ws hl hag hP hD hS
  exact W.lcmp C.1.1 C.1.2.1 hd (k H locs ls ws hl hag hP hD hS)
theorem zm_iconst (C : zm_Cx E K cc own d lo rc rs nl) {n : Int} {v : Int32} (hv : Int32.ofInt n = v) (hd : decode cc pc = .ok (.iconst n, 1)) (k : zm_Go E nc ns (pc + 1) L (.int v :: st) h) : zm_Go E nc ns pc L st h := by
  obtain ⟨p, l, e, R, s, m, args, below, meth, c, D, cA, A, nL, Q⟩ := E
  intro H locs ls ws hl hag hP hD hS
  exact lv_iconst C.1.1 C.1.2.1 hd hv (k H locs ls ws hl hag hP hD hS)
theorem zm_bipush (C : zm_Cx E K cc own d lo rc rs nl) {n : Int} {v : Int32} (hv : (Int8.ofInt n).toInt32 = v) (hd : decode cc pc = .ok (.bipush n, 2)) (k : zm_Go E nc ns (pc + 2) L (.int v :: st) h) : zm_Go E nc ns pc L st h := by
  obtain ⟨p, l, e, R, s, m, args, below, meth, c, D, cA, A, nL, Q⟩ := E
  intro H locs ls ws hl hag hP hD hS
  exact lv_bipush C.1.1 C.1.2.1 hd hv (k H locs ls ws hl hag hP hD hS)
theorem zm_sipush (C : zm_Cx E K cc own d lo rc rs nl) {n : Int} {v : Int32} (hv : (Int16.ofInt n).toInt32 = v) (hd : decode cc pc = .ok (.sipush n, 3)) (k : zm_Go E nc ns (pc + 3) L (.int v :: st) h) : zm_Go E nc ns pc L st h := by
  obtain ⟨p, l, e, R, s, m, args, below, meth, c, D, cA, A, nL, Q⟩ := E
  intro H locs ls ws hl hag hP hD hS
  exact lv_sipush C.1.1 C.1.2.1 hd hv (k H locs ls ws hl hag hP hD hS)
theorem zm_lconst (C : zm_Cx E K cc own d lo rc rs nl) {n : Fin 2} {v : Int64} (hv : Int64.ofNat (n : Nat) = v) (hd : decode cc pc = .ok (.lconst n, 1)) (k : zm_Go E nc ns (pc + 1) L (.long v :: st) h) : zm_Go E nc ns pc L st h := by
  obtain ⟨p, l, e, R, s, m, args, below, meth, c, D, cA, A, nL, Q⟩ := E
  intro H locs ls ws hl hag hP hD hS
  exact lv_lconst C.1.1 C.1.2.1 hd hv (k H locs ls ws hl hag hP hD hS)
theorem zm_ldc (C : zm_Cx E K cc own d lo rc rs nl) {v : Int32} {idx : Nat} (hw : Cond.constant own idx v ∈ wG) (hd : decode cc pc = .ok (.ldc idx, 2)) (k : zm_Go E nc ns (pc + 2) L (.int v :: st) h) : zm_Go E nc ns pc L st h := by
  obtain ⟨p, l, e, R, s, m, args, below, meth, c, D, cA, A, nL, Q⟩ := E
  intro H locs ls ws hl hag hP hD hS
  exact lv_ldc C.1.1 C.1.2.1 C.1.2.2.2.1 (C.1.2.2.2.2 _ hw) hd (k H locs ls ws hl hag hP hD hS)
theorem zm_ldc2 (C : zm_Cx E K cc own d lo rc rs nl) {v : Int64} {idx : Nat} (hw : Cond.constantLong own idx v ∈ wG) (hd : decode cc pc = .ok (.ldc2_w idx, 3)) (k : zm_Go E nc ns (pc + 3) L (.long v :: st) h) : zm_Go E nc ns pc L st h := by
  obtain ⟨p, l, e, R, s, m, args, below, meth, c, D, cA, A, nL, Q⟩ := E
  intro H locs ls ws hl hag hP hD hS
  exact lv_ldc2 C.1.1 C.1.2.1 C.1.2.2.2.1 (C.1.2.2.2.2 _ hw) hd (k H locs ls ws hl hag hP hD hS)
theorem zm_dup (C : zm_Cx E K cc own d lo rc rs nl) {v : Value} (hv : v.category = 1) (hd : decode cc pc = .ok (.dup, 1)) (k : zm_Go E nc ns (pc + 1) L (v :: v :: st) h) : zm_Go E nc ns pc L (v :: st) h := by
  obtain ⟨p, l, e, R, s, m, args, below, meth, c, D, cA, A, nL, Q⟩ := E
  intro H locs ls ws hl hag hP hD hS
  exact lv_dup C.1.1 C.1.2.1 hd hv (k H locs ls ws hl hag hP hD hS)
theorem zm_pop (C : zm_Cx E K cc own d lo rc rs nl) {v : Value} (hv : v.category = 1) (hd : decode cc pc = .ok (.pop, 1)) (k : zm_Go E nc ns (pc + 1) L st h) : zm_Go E nc ns pc L (v :: st) h := by
  obtain ⟨p, l, e, R, s, m, args, below, meth, c, D, cA, A, nL, Q⟩ := E
  intro H locs ls ws hl hag hP hD hS
  exact lv_pop C.1.1 C.1.2.1 hd hv (k H locs ls ws hl hag hP hD hS)
theorem zm_iload_n (C : zm_Cx E K cc own d lo rc rs nl) {n : Fin 4} {i : Nat} (hi : (n : Nat) = i) (j : Nat) {x : Int32} (hx : L[j]? = some (i, .int x)) (hd : decode cc pc = .ok (.iload_n n, 1)) (k : zm_Go E nc ns (pc + 1) L (.int x :: st) h) : zm_Go E nc ns pc L st h := by
  obtain ⟨p, l, e, R, s, m, args, below, meth, c, D, cA, A, nL, Q⟩ := E
  intro H locs ls ws hl hag hP hD hS
  exact lv_iload_n C.1.1 C.1.2.1 hd hi (lv_at hl j hx) (k H locs ls ws hl hag hP hD hS)
theorem zm_iload (C : zm_Cx E K cc own d lo rc rs nl) {i : Nat} (j : Nat) {x : Int32} (hx : L[j]? = some (i, .int x)) (hd : decode cc pc = .ok (.iload i, 2)) (k : zm_Go E nc ns (pc + 2) L (.int x :: st) h) : zm_Go E nc ns pc L st h := by
  obtain ⟨p, l, e, R, s, m, args, below, meth, c, D, cA, A, nL, Q⟩ := E
  intro H locs ls ws hl hag hP hD hS
  exact lv_iload C.1.1 C.1.2.1 hd (lv_at hl j hx) (k H locs ls ws hl hag hP hD hS)
theorem zm_istore_n (C : zm_Cx E K cc own d lo rc rs nl) {n : Fin 4} {i : Nat} (hi : (n : Nat) = i) (hn : i < nl) (ks : List Nat) {x : Int32} (hd : decode cc pc = .ok (.istore_n n, 1)) (hk : lv_pick ((i, Value.int x) :: L.filter (fun q => !(q.1 == i) && !(q.1 + 1 == i && q.2.category == 2))) ks = L') (k : zm_Go E nc ns (pc + 1) L' st h) : zm_Go E nc ns pc L (.int x :: st) h := by
  obtain ⟨p, l, e, R, s, m, args, below, meth, c, D, cA, A, nL, Q⟩ := E
  intro H locs ls ws hl hag hP hD hS
  have e9 := C.2.2.2.2.2.2.2.2.2.1
  subst e9
  exact lv_istore_n C.1.1 C.1.2.1 hd hi hl hn rfl (fun ls' hl' => k H locs ls' ws (lv_sub hl' ks hk) hag hP hD hS)
theorem zm_istore (C : zm_Cx E K cc own d lo rc rs nl) {i : Nat} (hn : i < nl) (ks : List Nat) {x : Int32} (hd : decode cc pc = .ok (.istore i, 2)) (hk : lv_pick ((i, Value.int x) :: L.filter (fun q => !(q.1 == i) && !(q.1 + 1 == i && q.2.category == 2))) ks = L') (k : zm_Go E nc ns (pc + 2) L' st h) : zm_Go E nc ns pc L (.int x :: st) h := by
  obtain ⟨p, l, e, R, s, m, args, below, meth, c, D, cA, A, nL, Q⟩ := E
  intro H locs ls ws hl hag hP hD hS
  have e9 := C.2.2.2.2.2.2.2.2.2.1
  subst e9
  exact lv_istore C.1.1 C.1.2.1 hd hl hn rfl (fun ls' hl' => k H locs ls' ws (lv_sub hl' ks hk) hag hP hD hS)
theorem zm_lload_n (C : zm_Cx E K cc own d lo rc rs nl) {n : Fin 4} {i : Nat} (hi : (n : Nat) = i) (j : Nat) {x : Int64} (hx : L[j]? = some (i, .long x)) (hd : decode cc pc = .ok (.lload_n n, 1)) (k : zm_Go E nc ns (pc + 1) L (.long x :: st) h) : zm_Go E nc ns pc L st h := by
  obtain ⟨p, l, e, R, s, m, args, below, meth, c, D, cA, A, nL, Q⟩ := E
  intro H locs ls ws hl hag hP hD hS
  exact lv_lload_n C.1.1 C.1.2.1 hd hi (lv_at hl j hx) (k H locs ls ws hl hag hP hD hS)
theorem zm_lload (C : zm_Cx E K cc own d lo rc rs nl) {i : Nat} (j : Nat) {x : Int64} (hx : L[j]? = some (i, .long x)) (hd : decode cc pc = .ok (.lload i, 2)) (k : zm_Go E nc ns (pc + 2) L (.long x :: st) h) : zm_Go E nc ns pc L st h := by
  obtain ⟨p, l, e, R, s, m, args, below, meth, c, D, cA, A, nL, Q⟩ := E
  intro H locs ls ws hl hag hP hD hS
  exact lv_lload C.1.1 C.1.2.1 hd (lv_at hl j hx) (k H locs ls ws hl hag hP hD hS)
theorem zm_lstore_n (C : zm_Cx E K cc own d lo rc rs nl) {n : Fin 4} {i : Nat} (hi : (n : Nat) = i) (hn : i + 1 < nl) (ks : List Nat) {x : Int64} (hd : decode cc pc = .ok (.lstore_n n, 1)) (hk : lv_pick ((i, Value.long x) :: L.filter (fun q => !(q.1 == i) && (!(q.1 == i + 1) && !(q.1 + 1 == i && q.2.category == 2)))) ks = L') (k : zm_Go E nc ns (pc + 1) L' st h) : zm_Go E nc ns pc L (.long x :: st) h := by
  obtain ⟨p, l, e, R, s, m, args, below, meth, c, D, cA, A, nL, Q⟩ := E
  intro H locs ls ws hl hag hP hD hS
  have e9 := C.2.2.2.2.2.2.2.2.2.1
  subst e9
  exact lv_lstore_n C.1.1 C.1.2.1 hd hi hl hn rfl (fun ls' hl' => k H locs ls' ws (lv_sub hl' ks hk) hag hP hD hS)
theorem zm_lstore (C : zm_Cx E K cc own d lo rc rs nl) {i : Nat} (hn : i + 1 < nl) (ks : List Nat) {x : Int64} (hd : decode cc pc = .ok (.lstore i, 2)) (hk : lv_pick ((i, Value.long x) :: L.filter (fun q => !(q.1 == i) && (!(q.1 == i + 1) && !(q.1 + 1 == i && q.2.category == 2)))) ks = L') (k : zm_Go E nc ns (pc + 2) L' st h) : zm_Go E nc ns pc L (.long x :: st) h := by
  obtain ⟨p, l, e, R, s, m, args, below, meth, c, D, cA, A, nL, Q⟩ := E
  intro H locs ls ws hl hag hP hD hS
  have e9 := C.2.2.2.2.2.2.2.2.2.1
  subst e9
  exact lv_lstore C.1.1 C.1.2.1 hd hl hn rfl (fun ls' hl' => k H locs ls' ws (lv_sub hl' ks hk) hag hP hD hS)
theorem zm_aload_n (C : zm_Cx E K cc own d lo rc rs nl) {n : Fin 4} {i : Nat} (hi : (n : Nat) = i) (j : Nat) {x : Nat} (hx : L[j]? = some (i, .ref x)) (hd : decode cc pc = .ok (.aload_n n, 1)) (k : zm_Go E nc ns (pc + 1) L (.ref x :: st) h) : zm_Go E nc ns pc L st h := by
  obtain ⟨p, l, e, R, s, m, args, below, meth, c, D, cA, A, nL, Q⟩ := E
  intro H locs ls ws hl hag hP hD hS
  exact lv_aload_n C.1.1 C.1.2.1 hd hi (lv_at hl j hx) (k H locs ls ws hl hag hP hD hS)
theorem zm_aload (C : zm_Cx E K cc own d lo rc rs nl) {i : Nat} (j : Nat) {x : Nat} (hx : L[j]? = some (i, .ref x)) (hd : decode cc pc = .ok (.aload i, 2)) (k : zm_Go E nc ns (pc + 2) L (.ref x :: st) h) : zm_Go E nc ns pc L st h := by
  obtain ⟨p, l, e, R, s, m, args, below, meth, c, D, cA, A, nL, Q⟩ := E
  intro H locs ls ws hl hag hP hD hS
  exact lv_aload C.1.1 C.1.2.1 hd (lv_at hl j hx) (k H locs ls ws hl hag hP hD hS)
theorem zm_astore_n (C : zm_Cx E K cc own d lo rc rs nl) {n : Fin 4} {i : Nat} (hi : (n : Nat) = i) (hn : i < nl) (ks : List Nat) {x : Nat} (hd : decode cc pc = .ok (.astore_n n, 1)) (hk : lv_pick ((i, Value.ref x) :: L.filter (fun q => !(q.1 == i) && !(q.1 + 1 == i && q.2.category == 2))) ks = L') (k : zm_Go E nc ns (pc + 1) L' st h) : zm_Go E nc ns pc L (.ref x :: st) h := by
  obtain ⟨p, l, e, R, s, m, args, below, meth, c, D, cA, A, nL, Q⟩ := E
  intro H locs ls ws hl hag hP hD hS
  have e9 := C.2.2.2.2.2.2.2.2.2.1
  subst e9
  exact lv_astore_n C.1.1 C.1.2.1 hd hi hl hn rfl (fun ls' hl' => k H locs ls' ws (lv_sub hl' ks hk) hag hP hD hS)
theorem zm_astore (C : zm_Cx E K cc own d lo rc rs nl) {i : Nat} (hn : i < nl) (ks : List Nat) {x : Nat} (hd : decode cc pc = .ok (.astore i, 2)) (hk : lv_pick ((i, Value.ref x) :: L.filter (fun q => !(q.1 == i) && !(q.1 + 1 == i && q.2.category == 2))) ks = L') (k : zm_Go E nc ns (pc + 2) L' st h) : zm_Go E nc ns pc L (.ref x :: st) h := by
  obtain ⟨p, l, e, R, s, m, args, below, meth, c, D, cA, A, nL, Q⟩ := E
  intro H locs ls ws hl hag hP hD hS
  have e9 := C.2.2.2.2.2.2.2.2.2.1
  subst e9
  exact lv_astore C.1.1 C.1.2.1 hd hl hn rfl (fun ls' hl' => k H locs ls' ws (lv_sub hl' ks hk) hag hP hD hS)
theorem zm_iinc (C : zm_Cx E K cc own d lo rc rs nl) {i : Nat} {n : Int} (hn : i < nl) (j : Nat) (ks : List Nat) {x v : Int32} (hd : decode cc pc = .ok (.iinc i n, 3)) (hx : L[j]? = some (i, .int x)) (hv : x + Int32.ofInt n = v) (hk : lv_pick ((i, Value.int v) :: L.filter (fun q => !(q.1 == i) && !(q.1 + 1 == i && q.2.category == 2))) ks = L') (k : zm_Go E nc ns (pc + 3) L' st h) : zm_Go E nc ns pc L st h := by
  obtain ⟨p, l, e, R, s, m, args, below, meth, c, D, cA, A, nL, Q⟩ := E
  intro H locs ls ws hl hag hP hD hS
  have e9 := C.2.2.2.2.2.2.2.2.2.1
  subst e9
  exact lv_iinc C.1.1 C.1.2.1 hd hl hx hv hn rfl (fun ls' hl' => k H locs ls' ws (lv_sub hl' ks hk) hag hP hD hS)
theorem zm_if_eq (C : zm_Cx E K cc own d lo rc rs nl) {x : Int32} {off : Int} {tgt : Nat} (hd : decode cc pc = .ok (.ifCond .eq off, 3)) (ht : (pc : Int) + off = (tgt : Int)) (kt : x = 0 → zm_Go E nc ns tgt L st h) (kf : ¬ x = 0 → zm_Go E nc ns (pc + 3) L st h) : zm_Go E nc ns pc L (.int x :: st) h := by
  obtain ⟨p, l, e, R, s, m, args, below, meth, c, D, cA, A, nL, Q⟩ := E
  intro H locs ls ws hl hag hP hD hS
  exact lv_if_eq C.1.1 C.1.2.1 hd ht (fun z => kt z H locs ls ws hl hag hP hD hS) (fun z => kf z H locs ls ws hl hag hP hD hS)
theorem zm_icmp_eq (C : zm_Cx E K cc own d lo rc rs nl) {x y : Int32} {off : Int} {tgt : Nat} (hd : decode cc pc = .ok (.if_icmp .eq off, 3)) (ht : (pc : Int) + off = (tgt : Int)) (kt : x = y → zm_Go E nc ns tgt L st h) (kf : ¬ x = y → zm_Go E nc ns (pc + 3) L st h) : zm_Go E nc ns pc L (.int y :: .int x :: st) h := by
  obtain ⟨p, l, e, R, s, m, args, below, meth, c, D, cA, A, nL, Q⟩ := E
  intro H locs ls ws hl hag hP hD hS
  exact lv_icmp_eq C.1.1 C.1.2.1 hd ht (fun z => kt z H locs ls ws hl hag hP hD hS) (fun z => kf z H locs ls ws hl hag hP hD hS)
theorem zm_if_ne (C : zm_Cx E K cc own d lo rc rs nl) {x : Int32} {off : Int} {tgt : Nat} (hd : decode cc pc = .ok (.ifCond .ne off, 3)) (ht : (pc : Int) + off = (tgt : Int)) (kt : ¬ x = 0 → zm_Go E nc ns tgt L st h) (kf : x = 0 → zm_Go E nc ns (pc + 3) L st h) : zm_Go E nc ns pc L (.int x :: st) h := by
  obtain ⟨p, l, e, R, s, m, args, below, meth, c, D, cA, A, nL, Q⟩ := E
  intro H locs ls ws hl hag hP hD hS
  exact lv_if_ne C.1.1 C.1.2.1 hd ht (fun z => kt z H locs ls ws hl hag hP hD hS) (fun z => kf z H locs ls ws hl hag hP hD hS)
theorem zm_icmp_ne (C : zm_Cx E K cc own d lo rc rs nl) {x y : Int32} {off : Int} {tgt : Nat} (hd : decode cc pc = .ok (.if_icmp .ne off, 3)) (ht : (pc : Int) + off = (tgt : Int)) (kt : ¬ x = y → zm_Go E nc ns tgt L st h) (kf : x = y → zm_Go E nc ns (pc + 3) L st h) : zm_Go E nc ns pc L (.int y :: .int x :: st) h := by
  obtain ⟨p, l, e, R, s, m, args, below, meth, c, D, cA, A, nL, Q⟩ := E
  intro H locs ls ws hl hag hP hD hS
  exact lv_icmp_ne C.1.1 C.1.2.1 hd ht (fun z => kt z H locs ls ws hl hag hP hD hS) (fun z => kf z H locs ls ws hl hag hP hD hS)
theorem zm_if_lt (C : zm_Cx E K cc own d lo rc rs nl) {x : Int32} {off : Int} {tgt : Nat} (hd : decode cc pc = .ok (.ifCond .lt off, 3)) (ht : (pc : Int) + off = (tgt : Int)) (kt : x < 0 → zm_Go E nc ns tgt L st h) (kf : ¬ x < 0 → zm_Go E nc ns (pc + 3) L st h) : zm_Go E nc ns pc L (.int x :: st) h := by
  obtain ⟨p, l, e, R, s, m, args, below, meth, c, D, cA, A, nL, Q⟩ := E
  intro H locs ls ws hl hag hP hD hS
  exact lv_if_lt C.1.1 C.1.2.1 hd ht (fun z => kt z H locs ls ws hl hag hP hD hS) (fun z => kf z H locs ls ws hl hag hP hD hS)
theorem zm_icmp_lt (C : zm_Cx E K cc own d lo rc rs nl) {x y : Int32} {off : Int} {tgt : Nat} (hd : decode cc pc = .ok (.if_icmp .lt off, 3)) (ht : (pc : Int) + off = (tgt : Int)) (kt : x < y → zm_Go E nc ns tgt L st h) (kf : ¬ x < y → zm_Go E nc ns (pc + 3) L st h) : zm_Go E nc ns pc L (.int y :: .int x :: st) h := by
  obtain ⟨p, l, e, R, s, m, args, below, meth, c, D, cA, A, nL, Q⟩ := E
  intro H locs ls ws hl hag hP hD hS
  exact lv_icmp_lt C.1.1 C.1.2.1 hd ht (fun z => kt z H locs ls ws hl hag hP hD hS) (fun z => kf z H locs ls ws hl hag hP hD hS)
theorem zm_if_ge (C : zm_Cx E K cc own d lo rc rs nl) {x : Int32} {off : Int} {tgt : Nat} (hd : decode cc pc = .ok (.ifCond .ge off, 3)) (ht : (pc : Int) + off = (tgt : Int)) (kt : 0 ≤ x → zm_Go E nc ns tgt L st h) (kf : ¬ 0 ≤ x → zm_Go E nc ns (pc + 3) L st h) : zm_Go E nc ns pc L (.int x :: st) h := by
  obtain ⟨p, l, e, R, s, m, args, below, meth, c, D, cA, A, nL, Q⟩ := E
  intro H locs ls ws hl hag hP hD hS
  exact lv_if_ge C.1.1 C.1.2.1 hd ht (fun z => kt z H locs ls ws hl hag hP hD hS) (fun z => kf z H locs ls ws hl hag hP hD hS)
theorem zm_icmp_ge (C : zm_Cx E K cc own d lo rc rs nl) {x y : Int32} {off : Int} {tgt : Nat} (hd : decode cc pc = .ok (.if_icmp .ge off, 3)) (ht : (pc : Int) + off = (tgt : Int)) (kt : y ≤ x → zm_Go E nc ns tgt L st h) (kf : ¬ y ≤ x → zm_Go E nc ns (pc + 3) L st h) : zm_Go E nc ns pc L (.int y :: .int x :: st) h := by
  obtain ⟨p, l, e, R, s, m, args, below, meth, c, D, cA, A, nL, Q⟩ := E
  intro H locs ls ws hl hag hP hD hS
  exact lv_icmp_ge C.1.1 C.1.2.1 hd ht (fun z => kt z H locs ls ws hl hag hP hD hS) (fun z => kf z H locs ls ws hl hag hP hD hS)
theorem zm_if_gt (C : zm_Cx E K cc own d lo rc rs nl) {x : Int32} {off : Int} {tgt : Nat} (hd : decode cc pc = .ok (.ifCond .gt off, 3)) (ht : (pc : Int) + off = (tgt : Int)) (kt : 0 < x → zm_Go E nc ns tgt L st h) (kf : ¬ 0 < x → zm_Go E nc ns (pc + 3) L st h) : zm_Go E nc ns pc L (.int x :: st) h := by
  obtain ⟨p, l, e, R, s, m, args, below, meth, c, D, cA, A, nL, Q⟩ := E
  intro H locs ls ws hl hag hP hD hS
  exact lv_if_gt C.1.1 C.1.2.1 hd ht (fun z => kt z H locs ls ws hl hag hP hD hS) (fun z => kf z H locs ls ws hl hag hP hD hS)
theorem zm_icmp_gt (C : zm_Cx E K cc own d lo rc rs nl) {x y : Int32} {off : Int} {tgt : Nat} (hd : decode cc pc = .ok (.if_icmp .gt off, 3)) (ht : (pc : Int) + off = (tgt : Int)) (kt : y < x → zm_Go E nc ns tgt L st h) (kf : ¬ y < x → zm_Go E nc ns (pc + 3) L st h) : zm_Go E nc ns pc L (.int y :: .int x :: st) h := by
  obtain ⟨p, l, e, R, s, m, args, below, meth, c, D, cA, A, nL, Q⟩ := E
  intro H locs ls ws hl hag hP hD hS
  exact lv_icmp_gt C.1.1 C.1.2.1 hd ht (fun z => kt z H locs ls ws hl hag hP hD hS) (fun z => kf z H locs ls ws hl hag hP hD hS)
theorem zm_if_le (C : zm_Cx E K cc own d lo rc rs nl) {x : Int32} {off : Int} {tgt : Nat} (hd : decode cc pc = .ok (.ifCond .le off, 3)) (ht : (pc : Int) + off = (tgt : Int)) (kt : x ≤ 0 → zm_Go E nc ns tgt L st h) (kf : ¬ x ≤ 0 → zm_Go E nc ns (pc + 3) L st h) : zm_Go E nc ns pc L (.int x :: st) h := by
  obtain ⟨p, l, e, R, s, m, args, below, meth, c, D, cA, A, nL, Q⟩ := E
  intro H locs ls ws hl hag hP hD hS
  exact lv_if_le C.1.1 C.1.2.1 hd ht (fun z => kt z H locs ls ws hl hag hP hD hS) (fun z => kf z H locs ls ws hl hag hP hD hS)
theorem zm_icmp_le (C : zm_Cx E K cc own d lo rc rs nl) {x y : Int32} {off : Int} {tgt : Nat} (hd : decode cc pc = .ok (.if_icmp .le off, 3)) (ht : (pc : Int) + off = (tgt : Int)) (kt : x ≤ y → zm_Go E nc ns tgt L st h) (kf : ¬ x ≤ y → zm_Go E nc ns (pc + 3) L st h) : zm_Go E nc ns pc L (.int y :: .int x :: st) h := by
  obtain ⟨p, l, e, R, s, m, args, below, meth, c, D, cA, A, nL, Q⟩ := E
  intro H locs ls ws hl hag hP hD hS
  exact lv_icmp_le C.1.1 C.1.2.1 hd ht (fun z => kt z H locs ls ws hl hag hP hD hS) (fun z => kf z H locs ls ws hl hag hP hD hS)
theorem zm_goto (C : zm_Cx E K cc own d lo rc rs nl) {off : Int} {tgt : Nat} (hd : decode cc pc = .ok (.goto off, 3)) (ht : (pc : Int) + off = (tgt : Int)) (k : zm_Go E nc ns tgt L st h) : zm_Go E nc ns pc L st h := by
  obtain ⟨p, l, e, R, s, m, args, below, meth, c, D, cA, A, nL, Q⟩ := E
  intro H locs ls ws hl hag hP hD hS
  exact lv_goto C.1.1 C.1.2.1 hd ht (k H locs ls ws hl hag hP hD hS)
theorem zm_swOut (C : zm_Cx E K cc own d lo rc rs nl) {dflt lo hi : Int} {offs : Array Int} {len : Nat} {x : Int32} {tgt : Nat} (hd : decode cc pc = .ok (.tableswitch dflt lo hi offs, len)) (hx : x.toInt < lo ∨ hi < x.toInt) (ht : (pc : Int) + dflt = (tgt : Int)) (k : zm_Go E nc ns tgt L st h) : zm_Go E nc ns pc L (.int x :: st) h := by
  obtain ⟨p, l, e, R, s, m, args, below, meth, c, D, cA, A, nL, Q⟩ := E
  intro H locs ls ws hl hag hP hD hS
  exact lv_tableOut C.1.1 C.1.2.1 hd hx ht (k H locs ls ws hl hag hP hD hS)
theorem zm_swIn (C : zm_Cx E K cc own d lo rc rs nl) {dflt lo hi : Int} {offs : Array Int} {len : Nat} {x : Int32} {off : Int} {tgt : Nat} (hd : decode cc pc = .ok (.tableswitch dflt lo hi offs, len)) (h1 : ¬ x.toInt < lo) (h2 : ¬ hi < x.toInt) (ho : offs[(x.toInt - lo).toNat]? = some off) (ht : (pc : Int) + off = (tgt : Int)) (k : zm_Go E nc ns tgt L st h) : zm_Go E nc ns pc L (.int x :: st) h := by
  obtain ⟨p, l, e, R, s, m, args, below, meth, c, D, cA, A, nL, Q⟩ := E
  intro H locs ls ws hl hag hP hD hS
  exact lv_tableIn C.1.1 C.1.2.1 hd h1 h2 ho ht (k H locs ls ws hl hag hP hD hS)
end ZMI
/-! fields -/
def zm_FF (own : String) (idx ci k : Nat) : Prop := ∃ q : vw_C, vwCl[ci]? = some q ∧ (∀ w ∈ u_ws q.1 q.2.1 q.2.2, w ∈ wG) ∧ k < q.2.2 ∧ Cond.fieldLink own idx (q.2.1 k).1 (q.2.1 k).2.1 (q.2.1 k).2.2.1 ∈ wG
def zm_FT (ci : Nat) : Prop := ∃ (q : vw_C) (ty : Nat → FieldType), vwCl[ci]? = some q ∧ (∀ k, k < q.2.2 → parseFieldDescriptor (q.2.1 k).2.2.1 = some (ty k)) ∧ ∀ a, a < q.2.2 → ∀ b, b < q.2.2 → a ≠ b → (q.2.1 a).2.1 ≠ (q.2.1 b).2.1
/-- a field that may be set: of the class's own kind ty; in a constructor's own class where it is final -/
def zm_FP (own : String) (ci k : Nat) (ty : FieldType) (fin : Bool) : Prop := ∃ q : vw_C, vwCl[ci]? = some q ∧ (q.2.1 k).2.2.2 = fin ∧ parseFieldDescriptor (q.2.1 k).2.2.1 = some ty ∧ (fin = true → (q.2.1 k).1 = own)
/-- an object of class ci can be made, and has the fields fs then -/
def zm_FN (own : String) (idx ci : Nat) (fs : List Value) (N : Nat) : Prop := ∃ (q : vw_C) (ty : Nat → FieldType), vwCl[ci]? = some q ∧ q.2.2 = N ∧ (∀ w ∈ u_ws q.1 q.2.1 q.2.2, w ∈ wG) ∧ (∀ k, k < q.2.2 → parseFieldDescriptor (q.2.1 k).2.2.1 = some (ty k)) ∧ Cond.classLink own idx q.1 ∈ wG ∧ Cond.instantiable q.1 q.2.2 ∈ wG ∧ Cond.initialized q.1 ∈ wG ∧ ∀ j, j < q.2.2 → defaultValue (ty j) = vp_V fs j
section ZMF
variable {E : zm_E} {cc : ByteArray} {own : String} {K : zm_K} {d lo rc rs nl nc ns pc : Nat} {L L' : List (Nat × Value)} {st : List Value} {h : zm_H}
theorem zm_getf (C : zm_Cx E K cc own d lo rc rs nl) {idx ci k a : Nat} {fs : List Value} {v : Value} (F : zm_FF own idx ci k) (hd : decode cc pc = .ok (.getfield idx, 3)) (he : h a = some (.inr (ci, fs))) (hv : fs[k]? = some v) (kk : zm_Go E nc ns (pc + 3) L (v :: st) h) : zm_Go E nc ns pc L (.ref a :: st) h := by
  obtain ⟨p, l, e, R, s, m, args, below, meth, c, D, cA, A, nL, Q⟩ := E
  intro H locs ls ws hl hag hP hD hS
  obtain ⟨⟨Cn, T, N⟩, hc, hin, hk, hlk⟩ := F
  obtain ⟨q0, hq⟩ := hag.1 a _ he
  exact va_get C.1.1 C.1.2.1 C.1.2.2.2.2 hin C.1.2.2.2.1 C.2.2.1 hP q0 hq hc k hk (C.1.2.2.2.2 _ hlk) (fun _ h9 => h9) hv hd (kk H locs ls ws hl hag hP hD hS)
theorem zm_putf (C : zm_Cx E K cc own d lo rc rs nl) {idx ci k a : Nat} {fs : List Value} {v : Value} {ty : FieldType} (F : zm_FF own idx ci k) (FT : zm_FT ci) (FP : zm_FP own ci k ty false) (hd : decode cc pc = .ok (.putfield idx, 3)) (he : h a = some (.inr (ci, fs))) (hl9 : k < fs.length) (hn : narrow ty v = v) (hf : fits ty v = true) (kk : zm_Go E nc ns (pc + 3) L st (zm_set h a (.inr (ci, fs.set k v)))) : zm_Go E nc ns pc L (v :: .ref a :: st) h := by
  obtain ⟨p, l, e, R, s, m, args, below, meth, c, D, cA, A, nL, Q⟩ := E
  intro H locs ls ws hl hag hP hD hS
  obtain ⟨⟨Cn, T, N⟩, hc, hin, hk, hlk⟩ := F
  obtain ⟨q2, t2, hc2, hty, hnm⟩ := FT
  obtain ⟨q3, hc3, hfin, hpd, -⟩ := FP
  cases hc.symm.trans hc2
  cases hc.symm.trans hc3
  obtain ⟨q0, hq⟩ := hag.1 a _ he
  exact va_put C.1.1 C.1.2.1 C.1.2.2.2.2 hin t2 hty hnm C.1.2.2.2.1 C.2.2.1 hP hD hS q0 hq hc k hk (C.1.2.2.2.2 _ hlk) (fun _ h9 => h9) hfin hpd hn hf hl9 hd (fun H1 locs1 hP1 hD1 hS1 => kk H1 locs1 ls _ hl (hag.set hD hq) hP1 hD1 hS1)
theorem zm_putF (C : zm_Cx E K cc own d lo rc rs nl) (hin9 : zm_in E) {idx ci k a : Nat} {fs : List Value} {v : Value} {ty : FieldType} (F : zm_FF own idx ci k) (FT : zm_FT ci) (FP : zm_FP own ci k ty true) (hd : decode cc pc = .ok (.putfield idx, 3)) (he : h a = some (.inr (ci, fs))) (hl9 : k < fs.length) (hn : narrow ty v = v) (hf : fits ty v = true) (kk : zm_Go E nc ns (pc + 3) L st (zm_set h a (.inr (ci, fs.set k v)))) : zm_Go E nc ns pc L (v :: .ref a :: st) h := by
  obtain ⟨p, l, e, R, s, m, args, below, meth, c, D, cA, A, nL, Q⟩ := E
  intro H locs ls ws hl hag hP hD hS
  obtain ⟨⟨Cn, T, N⟩, hc, hin, hk, hlk⟩ := F
  obtain ⟨q2, t2, hc2, hty, hnm⟩ := FT
  obtain ⟨q3, hc3, hfin, hpd, hown⟩ := FP
  cases hc.symm.trans hc2
  cases hc.symm.trans hc3
  obtain ⟨q0, hq⟩ := hag.1 a _ he
  exact va_putF C.1.1 C.1.2.1 C.1.2.2.2.2 hin t2 hty hnm C.1.2.2.2.1 C.2.2.1 hP hD hS q0 hq hc k hk (C.1.2.2.2.2 _ hlk) (fun _ h9 => h9) hfin hin9 (hown rfl) hpd hn hf hl9 hd (fun H1 locs1 hP1 hD1 hS1 => kk H1 locs1 ls _ hl (hag.set hD hq) hP1 hD1 hS1)
theorem zm_newo (C : zm_Cx E K cc own d lo rc rs nl) {idx ci N : Nat} {fs : List Value} (F : zm_FN own idx ci fs N) (hd : decode cc pc = .ok (.new idx, 3)) (hc9 : nc + 1 ≤ rc) (hs9 : ns + N ≤ rs) (kk : ∀ q : Nat, h q = none → zm_Go E (nc + 1) (ns + N) (pc + 3) L (.ref q :: st) (zm_set h q (.inr (ci, fs)))) : zm_Go E nc ns pc L st h := by
  obtain ⟨p, l, e, R, s, m, args, below, meth, c, D, cA, A, nL, Q⟩ := E
  intro H locs ls ws hl hag hP hD hS
  obtain ⟨⟨Cn, T, N'⟩, ty, hc, rfl, hin, hty, hcl, hins, hini, hfs⟩ := F
  exact va_new C.1.1 C.1.2.1 C.1.2.2.2.2 hin ty hty C.1.2.2.2.1 (C.1.2.2.2.2 _ hcl) (C.1.2.2.2.2 _ hins) (C.1.2.2.2.2 _ hini) C.2.2.1 hP hD hS C.2.2.2.1 hc hfs (by rw [C.2.2.2.2.2.2.2.1]; exact hc9) (by rw [C.2.2.2.2.2.2.2.2.1]; exact hs9) hd (fun q H1 hP1 hD1 hS1 => kk q (hag.fresh hD1) H1 locs ls _ hl (hag.push (hag.fresh hD1)) hP1 hD1 hS1)
/-! arrays: kind 0 bytes, 1 ints, 2 longs -/
theorem zm_alen (C : zm_Cx E K cc own d lo rc rs nl) {a t : Nat} {x : vp_A} (hd : decode cc pc = .ok (.arraylength, 1)) (ht : t < 3) (he : h a = some (.inl (K.2.2 t, x))) (kk : zm_Go E nc ns (pc + 1) L (.int (nI x.1) :: st) h) : zm_Go E nc ns pc L (.ref a :: st) h := by
  obtain ⟨p, l, e, R, s, m, args, below, meth, c, D, cA, A, nL, Q⟩ := E
  intro H locs ls ws hl hag hP hD hS
  obtain rfl := C.2.2.2.2.2.2.2.2.2.2
  obtain ⟨q0, hq⟩ := hag.1 a _ he
  obtain ⟨ty, hty⟩ : ∃ ty, (zm_ty cA)[t]? = some (cA t, ty) := by
    rcases (show t = 0 ∨ t = 1 ∨ t = 2 by omega) with rfl | rfl | rfl
    · exact ⟨_, rfl⟩
    · exact ⟨_, rfl⟩
    · exact ⟨_, rfl⟩
  exact va_alen C.1.1 C.1.2.1 C.2.2.1 hP q0 t hq hty rfl hd (kk H locs ls ws hl hag hP hD hS)
theorem zm_iald (C : zm_Cx E K cc own d lo rc rs nl) {a n : Nat} {i : Int32} {f : Nat → Int32} (hd : decode cc pc = .ok (.iaload, 1)) (he : h a = some (.inl (K.2.2 1, n, .inl f))) (hi : vp_in i n) (kk : zm_Go E nc ns (pc + 1) L (.int (f i.toNatClampNeg) :: st) h) : zm_Go E nc ns pc L (.int i :: .ref a :: st) h := by
  obtain ⟨p, l, e, R, s, m, args, below, meth, c, D, cA, A, nL, Q⟩ := E
  intro H locs ls ws hl hag hP hD hS
  obtain rfl := C.2.2.2.2.2.2.2.2.2.2
  obtain ⟨q0, hq⟩ := hag.1 a _ he
  exact va_iald C.1.1 C.1.2.1 C.2.2.1 hP q0 1 hq rfl hi hd (kk H locs ls ws hl hag hP hD hS)
theorem zm_bald (C : zm_Cx E K cc own d lo rc rs nl) {a n : Nat} {i : Int32} {f : Nat → Int32} (hd : decode cc pc = .ok (.baload, 1)) (he : h a = some (.inl (K.2.2 0, n, .inl f))) (hi : vp_in i n) (kk : zm_Go E nc ns (pc + 1) L (.int (f i.toNatClampNeg) :: st) h) : zm_Go E nc ns pc L (.int i :: .ref a :: st) h := by
  obtain ⟨p, l, e, R, s, m, args, below, meth, c, D, cA, A, nL, Q⟩ := E
  intro H locs ls ws hl hag hP hD hS
  obtain rfl := C.2.2.2.2.2.2.2.2.2.2
  obtain ⟨q0, hq⟩ := hag.1 a _ he
  exact va_bald C.1.1 C.1.2.1 C.2.2.1 hP q0 0 hq rfl hi hd (kk H locs ls ws hl hag hP hD hS)
theorem zm_lald (C : zm_Cx E K cc own d lo rc rs nl) {a n : Nat} {i : Int32} {f : Nat → Int64} (hd : decode cc pc = .ok (.laload, 1)) (he : h a = some (.inl (K.2.2 2, n, .inr (.inl f)))) (hi : vp_in i n) (kk : zm_Go E nc ns (pc + 1) L (.long (f i.toNatClampNeg) :: st) h) : zm_Go E nc ns pc L (.int i :: .ref a :: st) h := by
  obtain ⟨p, l, e, R, s, m, args, below, meth, c, D, cA, A, nL, Q⟩ := E
  intro H locs ls ws hl hag hP hD hS
  obtain rfl := C.2.2.2.2.2.2.2.2.2.2
  obtain ⟨q0, hq⟩ := hag.1 a _ he
  exact va_lald C.1.1 C.1.2.1 C.2.2.1 hP q0 2 hq rfl hi hd (kk H locs ls ws hl hag hP hD hS)
theorem zm_iast (C : zm_Cx E K cc own d lo rc rs nl) {a n : Nat} {i x : Int32} {f : Nat → Int32} (hd : decode cc pc = .ok (.iastore, 1)) (he : h a = some (.inl (K.2.2 1, n, .inl f))) (hi : vp_in i n) (kk : zm_Go E nc ns (pc + 1) L st (zm_set h a (.inl (K.2.2 1, n, .inl (upd f i.toNatClampNeg x))))) : zm_Go E nc ns pc L (.int x :: .int i :: .ref a :: st) h := by
  obtain ⟨p, l, e, R, s, m, args, below, meth, c, D, cA, A, nL, Q⟩ := E
  intro H locs ls ws hl hag hP hD hS
  obtain rfl := C.2.2.2.2.2.2.2.2.2.2
  obtain ⟨q0, hq⟩ := hag.1 a _ he
  exact va_iast C.1.1 C.1.2.1 C.2.2.1 hP hD hS q0 1 hq rfl hi hd (fun H1 locs1 hP1 hD1 hS1 => kk H1 locs1 ls _ hl (hag.set hD hq) hP1 hD1 hS1)
theorem zm_bast (C : zm_Cx E K cc own d lo rc rs nl) {a n : Nat} {i x : Int32} {f : Nat → Int32} (hd : decode cc pc = .ok (.bastore, 1)) (he : h a = some (.inl (K.2.2 0, n, .inl f))) (hi : vp_in i n) (kk : zm_Go E nc ns (pc + 1) L st (zm_set h a (.inl (K.2.2 0, n, .inl (upd f i.toNatClampNeg (vp_nar .byte x)))))) : zm_Go E nc ns pc L (.int x :: .int i :: .ref a :: st) h := by
  obtain ⟨p, l, e, R, s, m, args, below, meth, c, D, cA, A, nL, Q⟩ := E
  intro H locs ls ws hl hag hP hD hS
  obtain rfl := C.2.2.2.2.2.2.2.2.2.2
  obtain ⟨q0, hq⟩ := hag.1 a _ he
  exact va_bast C.1.1 C.1.2.1 C.2.2.1 hP hD hS q0 0 hq rfl hi hd (fun H1 locs1 hP1 hD1 hS1 => kk H1 locs1 ls _ hl (hag.set hD hq) hP1 hD1 hS1)
theorem zm_last (C : zm_Cx E K cc own d lo rc rs nl) {a n : Nat} {i : Int32} {x : Int64} {f : Nat → Int64} (hd : decode cc pc = .ok (.lastore, 1)) (he : h a = some (.inl (K.2.2 2, n, .inr (.inl f)))) (hi : vp_in i n) (kk : zm_Go E nc ns (pc + 1) L st (zm_set h a (.inl (K.2.2 2, n, .inr (.inl (vp_updL f i.toNatClampNeg x)))))) : zm_Go E nc ns pc L (.long x :: .int i :: .ref a :: st) h := by
  obtain ⟨p, l, e, R, s, m, args, below, meth, c, D, cA, A, nL, Q⟩ := E
  intro H locs ls ws hl hag hP hD hS
  obtain rfl := C.2.2.2.2.2.2.2.2.2.2
  obtain ⟨q0, hq⟩ := hag.1 a _ he
  exact va_last C.1.1 C.1.2.1 C.2.2.1 hP hD hS q0 2 hq rfl hi hd (fun H1 locs1 hP1 hD1 hS1 => kk H1 locs1 ls _ hl (hag.set hD hq) hP1 hD1 hS1)
theorem zm_newa (C : zm_Cx E K cc own d lo rc rs nl) {at9 : ArrayType} {ty : FieldType} (t : Nat) (hty : newarray.typeOf at9 = ty) (ht : ∀ cA : Nat → ClassId, (zm_ty cA)[t]? = some (cA t, ty)) (hra : ∀ (U : State) (cA : ClassId), va_RA U cA ty → U.vm.findClass ("[" ++ ty.toString) = some cA) (hw : Cond.arrayClass (newarray.typeOf at9) ∈ wG) {n : Int32} {N : Nat} {a0 : vp_A} (ha : ∀ cA : ClassId, vp_cell cA a0 = arrV cA N (fun _ => defaultValue ty)) (hd : decode cc pc = .ok (.newarray at9, 2)) (hn : ¬ n < 0) (hN : n.toNatClampNeg = N) (hby : N * componentBytes ty ≤ 536870912) (hc9 : nc + 1 ≤ rc) (hs9 : ns + N ≤ rs) (kk : ∀ q : Nat, h q = none → zm_Go E (nc + 1) (ns + N) (pc + 2) L (.ref q :: st) (zm_set h q (.inl (K.2.2 t, a0)))) : zm_Go E nc ns pc L (.int n :: st) h := by
  obtain ⟨p, l, e, R, s, m, args, below, meth, c, D, cA, A, nL, Q⟩ := E
  intro H locs ls ws hl hag hP hD hS
  obtain rfl := C.2.2.2.2.2.2.2.2.2.2
  refine va_newa C.1.1 C.1.2.1 (C.1.2.2.2.2 _ hw) hty C.2.2.1 hP hD hS C.2.2.2.1 ha hn hN hby (by rw [C.2.2.2.2.2.2.2.1]; exact hc9) (by rw [C.2.2.2.2.2.2.2.2.1]; exact hs9) hd (fun q cB H1 hK1 hP1 hD1 hS1 => ?_)
  have e1 := hra _ _ (C.2.2.1.2 t _ (ht cA)).2
  have e2 := hra _ _ (hK1.2 (zm_ty cA).length (cB, ty) (by rw [List.getElem?_append_right (Nat.le_refl _), Nat.sub_self]; rfl)).2
  have e3 : cB = cA t := Option.some.inj (e2.symm.trans e1)
  subst e3
  exact kk q (hag.fresh hD1) H1 locs ls _ hl (hag.push (hag.fresh hD1)) hP1 hD1 hS1
/-! the JDK's own -/
theorem zm_objInit (C : zm_Cx E K cc own d lo rc rs nl) {idx a : Nat} (hw1 : Cond.methodLink own idx objectInit ∈ wG) (hw2 : Cond.instanceMethod objectInit ∈ wG) (hw3 : Cond.code objectInit ⟨#[0xb1]⟩ 1 none ∈ wG) (hdp : 1 ≤ d) (hlo : 26 ≤ lo) (hcat : (st.map fun v => v.category).sum ≤ 8) (hd : decode cc pc = .ok (.invokespecial idx, 3)) (kk : zm_Go E nc ns (pc + 3) L st h) : zm_Go E nc ns pc L (.ref a :: st) h := by
  obtain ⟨p, l, e, R, s, m, args, below, meth, c, D, cA, A, nL, Q⟩ := E
  intro H locs ls ws hl hag hP hD hS
  have h1 := C.2.2.2.2.2.1
  have h2 := C.2.2.2.2.2.2.1
  exact W.objInit C.1.1 C.1.2.1 C.1.2.2.2.1 (C.1.2.2.2.2 _ hw1) (C.1.2.2.2.2 _ hw2) (C.1.2.2.2.2 _ hw3) rfl (by rw [C.1.2.2.1]; exact hl.1) rfl hd (by omega) (by show 2 * 0 + _ + 12 ≤ _; omega) (kk H locs ls ws hl hag hP hD hS)
theorem zm_mmax (C : zm_Cx E K cc own d lo rc rs nl) {idx : Nat} {x y : Int32} (hw1 : Cond.methodLink own idx Lib.Math.max.name ∈ wG) (hw2 : Cond.static Lib.Math.max.name ∈ wG) (hw3 : Cond.initialized "java/lang/Math" ∈ wG) (hw4 : Cond.code Lib.Math.max.name Lib.Math.max.code 2 (some .int) ∈ wG) (hdp : 1 ≤ d) (hlo : 26 ≤ lo) (hcat : (st.map fun v => v.category).sum ≤ 8) (hc9 : nc ≤ rc) (hs9 : ns ≤ rs) (hd : decode cc pc = .ok (.invokestatic idx, 3)) (kk : zm_Go E nc ns (pc + 3) L (.int (if x < y then y else x) :: st) h) : zm_Go E nc ns pc L (.int y :: .int x :: st) h := by
  obtain ⟨p, l, e, R, s, m, args, below, meth, c, D, cA, A, nL, Q⟩ := E
  intro H locs ls ws hl hag hP hD hS
  have h1 := C.2.2.2.2.2.1
  have h2 := C.2.2.2.2.2.2.1
  exact va_mmax C.1.1 C.1.2.1 (by rw [C.1.2.2.1]; exact hl.1.symm) C.1.2.2.2.1 (C.1.2.2.2.2 _ hw1) (C.1.2.2.2.2 _ hw2) (C.1.2.2.2.2 _ hw3) (C.1.2.2.2.2 _ hw4) (by omega) (by omega) (by rw [C.2.2.2.2.2.2.2.1]; exact hc9) (by rw [C.2.2.2.2.2.2.2.2.1]; exact hs9) hd (kk H locs ls ws hl hag hP hD hS)
theorem zm_mmin (C : zm_Cx E K cc own d lo rc rs nl) {idx : Nat} {x y : Int32} (hw1 : Cond.methodLink own idx Lib.Math.min.name ∈ wG) (hw2 : Cond.static Lib.Math.min.name ∈ wG) (hw3 : Cond.initialized "java/lang/Math" ∈ wG) (hw4 : Cond.code Lib.Math.min.name Lib.Math.min.code 2 (some .int) ∈ wG) (hdp : 1 ≤ d) (hlo : 26 ≤ lo) (hcat : (st.map fun v => v.category).sum ≤ 8) (hc9 : nc ≤ rc) (hs9 : ns ≤ rs) (hd : decode cc pc = .ok (.invokestatic idx, 3)) (kk : zm_Go E nc ns (pc + 3) L (.int (if y < x then y else x) :: st) h) : zm_Go E nc ns pc L (.int y :: .int x :: st) h := by
  obtain ⟨p, l, e, R, s, m, args, below, meth, c, D, cA, A, nL, Q⟩ := E
  intro H locs ls ws hl hag hP hD hS
  have h1 := C.2.2.2.2.2.1
  have h2 := C.2.2.2.2.2.2.1
  exact va_mmin C.1.1 C.1.2.1 (by rw [C.1.2.2.1]; exact hl.1.symm) C.1.2.2.2.1 (C.1.2.2.2.2 _ hw1) (C.1.2.2.2.2 _ hw2) (C.1.2.2.2.2 _ hw3) (C.1.2.2.2.2 _ hw4) (by omega) (by omega) (by rw [C.2.2.2.2.2.2.2.1]; exact hc9) (by rw [C.2.2.2.2.2.2.2.2.1]; exact hs9) hd (kk H locs ls ws hl hag hP hD hS)
theorem zm_mminL (C : zm_Cx E K cc own d lo rc rs nl) {idx : Nat} {x y : Int64} (hw1 : Cond.methodLink own idx Lib.MathLoose.min_long.x ∈ wG) (hw2 : Cond.static Lib.MathLoose.min_long.x ∈ wG) (hw3 : Cond.initialized "java/lang/Math" ∈ wG) (hw4 : Cond.code Lib.MathLoose.min_long.x Lib.MathLoose.min_long.code 4 (some .long) ∈ wG) (hdp : 1 ≤ d) (hlo : 26 ≤ lo) (hcat : (st.map fun v => v.category).sum ≤ 8) (hc9 : nc ≤ rc) (hs9 : ns ≤ rs) (hd : decode cc pc = .ok (.invokestatic idx, 3)) (kk : zm_Go E nc ns (pc + 3) L (.long (if y < x then y else x) :: st) h) : zm_Go E nc ns pc L (.long y :: .long x :: st) h := by
  obtain ⟨p, l, e, R, s, m, args, below, meth, c, D, cA, A, nL, Q⟩ := E
  intro H locs ls ws hl hag hP hD hS
  have h1 := C.2.2.2.2.2.1
  have h2 := C.2.2.2.2.2.2.1
  exact va_mmin_long C.1.1 C.1.2.1 (by rw [C.1.2.2.1]; exact hl.1.symm) C.1.2.2.2.1 (C.1.2.2.2.2 _ hw1) (C.1.2.2.2.2 _ hw2) (C.1.2.2.2.2 _ hw3) (C.1.2.2.2.2 _ hw4) (by omega) (by omega) (by rw [C.2.2.2.2.2.2.2.1]; exact hc9) (by rw [C.2.2.2.2.2.2.2.2.1]; exact hs9) hd (kk H locs ls ws hl hag hP hD hS)
theorem zm_copyb (C : zm_Cx E K cc own d lo rc rs nl) {idx a0 a n0 n1 : Nat} {f g : Nat → Int32} {sp dp n : Int32} (hw1 : Cond.methodLink own idx arraycopyName ∈ wG) (hw2 : Cond.native arraycopyName ∈ wG) (hw3 : Cond.static arraycopyName ∈ wG) (hw4 : Cond.initialized "java/lang/System" ∈ wG) (hdp : 1 ≤ d) (hlo : 26 ≤ lo) (hcat : (st.map fun v => v.category).sum ≤ 8) (hd : decode cc pc = .ok (.invokestatic idx, 3)) (e0 : h a0 = some (.inl (K.2.2 0, n0, .inl f))) (e1 : h a = some (.inl (K.2.2 0, n1, .inl g)))
    (h1 : ¬ sp < 0) (h2 : ¬ dp < 0) (h3 : ¬ n < 0) (h4 : sp.toNatClampNeg + n.toNatClampNeg ≤ n0) (h5 : dp.toNatClampNeg + n.toNatClampNeg ≤ n1) (hfit : ∀ i, i < n.toNatClampNeg → fits .byte (.int (f (sp.toNatClampNeg + i))) = true) (kk : zm_Go E nc ns (pc + 3) L st (zm_set h a (.inl (K.2.2 0, n1, .inl (va_cpy f g sp.toNatClampNeg dp.toNatClampNeg n.toNatClampNeg))))) : zm_Go E nc ns pc L (.int n :: .int dp :: .ref a :: .int sp :: .ref a0 :: st) h := by
  obtain ⟨p, l, e, R, s, m, args, below, meth, c, D, cA, A, nL, Q⟩ := E
  intro H locs ls ws hl hag hP hD hS
  obtain rfl := C.2.2.2.2.2.2.2.2.2.2
  have g1 := C.2.2.2.2.2.1
  have g2 := C.2.2.2.2.2.2.1
  obtain ⟨q0, hq0⟩ := hag.1 a0 _ e0
  obtain ⟨q1, hq1⟩ := hag.1 a _ e1
  have g3 : nativeFrameWords "java/lang/System" "arraycopy" 5 + 11 ≤ 18 := by decide +kernel
  exact va_copyi C.1.1 C.1.2.1 (by rw [C.1.2.2.1]; exact hl.1.symm) C.1.2.2.2.1 (C.1.2.2.2.2 _ hw1) (C.1.2.2.2.2 _ hw2) (C.1.2.2.2.2 _ hw3) (C.1.2.2.2.2 _ hw4) C.2.2.1 hP hD hS q0 q1 0 0 hq0 hq1 rfl rfl rfl h1 h2 h3 h4 h5 hfit (by omega) (by omega) hd (fun H1 locs1 hP1 hD1 hS1 => kk H1 locs1 ls _ hl (hag.set hD hq1) hP1 hD1 hS1)
/-! calls -/
def zm_SB (M : zm_M) (n : Nat) : Prop := Cond.code M.1 M.2.1 M.2.2.1 M.2.2.2.1 ∈ wG ∧ Cond.initialized M.1.cls ∈ wG ∧ (M.1.cls ≠ "java/lang/invoke/MethodHandle" ∧ M.1.cls ≠ "java/lang/invoke/VarHandle" ∧ (parseMethodDescriptor M.1.desc).map (fun d => d.parameters.length) = some n)
def zm_SV (own : String) (idx ci : Nat) (M : zm_M) (n : Nat) : Prop := zm_SB M n ∧ (∃ q : vw_C, vwCl[ci]? = some q ∧ q.1 = M.1.cls) ∧ ∀ w ∈ ([.methodLink own idx M.1, .instanceMethod M.1, .selects M.1.cls M.1 M.1] : List Cond), w ∈ wG
def zm_SS (own : String) (idx : Nat) (M : zm_M) (n : Nat) : Prop := zm_SB M n ∧ M.1.cls = own ∧ ∀ w ∈ ([.methodLink own idx M.1, .static M.1] : List Cond), w ∈ wG
def zm_SI (own : String) (idx : Nat) (M : zm_M) (n : Nat) : Prop := zm_SB M n ∧ M.1.name = "<init>" ∧ M.2.2.2.1 = none ∧ ∀ w ∈ ([.methodLink own idx M.1, .instanceMethod M.1] : List Cond), w ∈ wG
def zm_SNs (own : String) (idx : Nat) (host : String) (M : zm_M) (n : Nat) : Prop := zm_SB M n ∧ (own, idx, M.1, host) ∈ zm_nest ∧ Cond.static M.1 ∈ wG
def zm_SNi (own : String) (idx : Nat) (host : String) (M : zm_M) (n : Nat) : Prop := zm_SB M n ∧ (own, idx, M.1, host) ∈ zm_nest ∧ M.1.name = "<init>" ∧ M.2.2.2.1 = none ∧ Cond.instanceMethod M.1 ∈ wG
theorem zm_after {p : Program} {l : Launch} {e : Env} {R : Room} {s : State} {m : MethodId} {args : Array Value} {below : List Frame} {meth : Method} {c : Code} {D : va_G} {A : Nat → Prop} {Q : State → Prop} {H : Heap} {locs : List Loc} {ls : Array Slot} {st0 rest : List Value} {mc ms : Nat} {a : Array Value} {Post : zm_Po}
    (hr : va_Run p l e R s m args below meth c H locs nc ns mc ms (F0 m pc ls st0) rest (zm_Qc D h H.size Post a) (zm_A h H.size)) (hS : va_S A s.heap H locs) (hA : ∀ q, zm_A h H.size q → A q)
    (kk : ∀ (r : Option Value) (h' : zm_H), Post r h' → ∀ (H1 : Heap) (locs1 : List Loc) (ws1 : va_W), zm_Ag h' ws1 → va_P D vwCl ws1 H1 → va_D A ws1 → va_S A s.heap H1 locs1 → W p l e R s m args below meth c H1 locs1 (nc + mc) (ns + ms) Q (F0 m (pc + 3) ls (r.toList ++ rest))) : W p l e R s m args below meth c H locs nc ns Q (F0 m pc ls st0) := by
  intro T hT X
  obtain ⟨v, st₀, t, T', L, h0, X', hL, e1, e2, ⟨⟨r, h', hv, hp, ws1, g1, g2, g3⟩, hz, hk⟩, st⟩ := hr T hT X
  cases hv
  rw [h0] at hz hk
  obtain ⟨t2, a1, b1⟩ := kk _ h' hp T'.heap (locs ++ L) ws1 g1 (by rw [e1]; exact g2) (g3.weaken (fun _ _ _ q => hA _ q))
    ⟨Nat.le_trans hS.1 (by rw [e1]; exact hz), fun q h1 h2 => by rw [e1, hk q (Nat.lt_of_lt_of_le h1 hS.1) (fun z => h2 (hA q z))]; exact hS.2.1 q h1 h2, fun q hq => by
      rcases List.mem_append.mp hq with h | h
      · exact hS.2.2 q h
      · exact hA _ (hL q h)⟩ T' rfl X'
  exact ⟨t2, st t2 a1, b1⟩
theorem zm_callV (C : zm_Cx E K cc own d lo rc rs nl) (M : zm_M) {idx ci b n : Nat} {As rest fs : List Value} {Post : zm_Po} (S : zm_SV own idx ci M n) (hn9 : As.length = n) (hd : decode cc pc = .ok (.invokevirtual idx, 3)) (hst : st = As.reverse ++ .ref b :: rest) (hcat : (rest.map fun v => v.category).sum ≤ 8) (hdp : M.2.2.2.2.1 + 1 ≤ d) (hlo : 19 + M.2.2.1 + M.2.2.2.2.2.1 ≤ lo) (hc9 : nc + M.2.2.2.2.2.2.1 ≤ rc) (hs9 : ns + M.2.2.2.2.2.2.2 ≤ rs)
    (hb : h b = some (.inr (ci, fs))) (hM : zm_Ct K M (.ref b :: As) h Post) (kk : ∀ (r : Option Value) (h' : zm_H), Post r h' → zm_Go E (nc + M.2.2.2.2.2.2.1) (ns + M.2.2.2.2.2.2.2) (pc + 3) L (r.toList ++ rest) h') : zm_Go E nc ns pc L st h := by
  obtain ⟨p, l, e, R, s, m, args, below, meth, c, D, cA, A, nL, Q⟩ := E
  intro H locs ls ws hl hag hP hD hS
  obtain rfl := C.2.2.2.2.2.2.2.2.2.2
  obtain ⟨y, bytes, maxL, ret, dm, lm, mc, ms⟩ := M
  obtain ⟨⟨hcw, hiw, hmh⟩, ⟨⟨Cn, T, N⟩, hcq, rfl⟩, h3⟩ := S
  have g1 := C.2.2.2.2.2.1
  have g2 := C.2.2.2.2.2.2.1
  dsimp only at hcw hiw hmh h3 hdp hlo hc9 hs9 kk
  obtain ⟨q0, hq⟩ := hag.1 b _ hb
  have hG : GoodIn wG (wsV own idx y.cls y (Cond.code y bytes maxL ret :: wG)) := zm_goodIn (fun w hw => by
    rcases List.mem_append.mp hw with hw | hw
    · rcases List.mem_cons.mp hw with rfl | hw
      · exact h3 _ List.mem_cons_self
      · rcases List.mem_cons.mp hw with rfl | hw
        · exact h3 _ (List.mem_cons_of_mem _ List.mem_cons_self)
        · rcases List.mem_cons.mp hw with rfl | hw
          · exact h3 _ (List.mem_cons_of_mem _ (List.mem_cons_of_mem _ List.mem_cons_self))
          · rw [List.mem_singleton.mp hw]; exact hiw
    · rcases List.mem_cons.mp hw with rfl | hw
      · exact hcw
      · exact hw)
  have cw := cwV (R := R) (rm := zm_rm dm lm mc ms) (mc := mc) (ms := ms) n C.1.2.2.2.2 hG rfl rfl rfl ⟨rfl, hmh⟩ ⟨Nat.le_trans hdp g1, by show 8 + (maxL + 11) + lm ≤ _; omega⟩
  refine zm_after (va_runV (As := As) (rest := rest) C.1 (hM H.size) cw ⟨zm_blind _ _ _ _, va_recv C.2.2.1 hP hcq hq, fun U hU hW => ⟨rfl, by rw [hU], ⟨ws, hag, by rw [hU]; exact hP, hD.weaken (fun _ _ _ _ => trivial)⟩, va_K.moved hW.alike C.2.2.1, zm_nw.warm hW C.2.2.2.2.1⟩⟩ rfl hn9 hl.1 hst (lv_room hcat) hd ⟨by rw [C.2.2.2.2.2.2.2.1]; exact hc9, by rw [C.2.2.2.2.2.2.2.2.1]; exact hs9⟩) hS (fun q hq => ?_) (fun r h' hp H1 locs1 ws1 a1 a2 a3 a4 => kk r h' hp H1 locs1 ls ws1 hl a1 a2 a3 a4)
  rcases hq with hq | hq
  · cases hz : h q with
    | none => exact absurd hz hq
    | some e1 =>
      obtain ⟨k, hk⟩ := hag.1 q e1 hz
      exact hD.2 k _ hk
  · exact C.2.2.2.1 q (Nat.le_trans hS.1 hq)
theorem zm_callS (C : zm_Cx E K cc own d lo rc rs nl) (M : zm_M) {idx n : Nat} {As rest : List Value} {Post : zm_Po} (S : zm_SS own idx M n) (hn9 : As.length = n) (hd : decode cc pc = .ok (.invokestatic idx, 3)) (hst : st = As.reverse ++ rest) (hcat : (rest.map fun v => v.category).sum ≤ 8) (hdp : M.2.2.2.2.1 + 1 ≤ d) (hlo : 19 + M.2.2.1 + M.2.2.2.2.2.1 ≤ lo) (hc9 : nc + M.2.2.2.2.2.2.1 ≤ rc) (hs9 : ns + M.2.2.2.2.2.2.2 ≤ rs)
    (hM : zm_Ct K M As h Post) (kk : ∀ (r : Option Value) (h' : zm_H), Post r h' → zm_Go E (nc + M.2.2.2.2.2.2.1) (ns + M.2.2.2.2.2.2.2) (pc + 3) L (r.toList ++ rest) h') : zm_Go E nc ns pc L st h := by
  obtain ⟨p, l, e, R, s, m, args, below, meth, c, D, cA, A, nL, Q⟩ := E
  intro H locs ls ws hl hag hP hD hS
  obtain rfl := C.2.2.2.2.2.2.2.2.2.2
  obtain ⟨y, bytes, maxL, ret, dm, lm, mc, ms⟩ := M
  obtain ⟨⟨hcw, hiw, hmh⟩, hyo, h3⟩ := S
  have g1 := C.2.2.2.2.2.1
  have g2 := C.2.2.2.2.2.2.1
  dsimp only at hcw hiw hmh hyo h3 hdp hlo hc9 hs9 kk
  have hG : GoodIn wG (wsS own idx y (Cond.code y bytes maxL ret :: wG)) := zm_goodIn (fun w hw => by
    rcases List.mem_append.mp hw with hw | hw
    · rcases List.mem_cons.mp hw with rfl | hw
      · exact h3 _ List.mem_cons_self
      · rcases List.mem_cons.mp hw with rfl | hw
        · exact h3 _ (List.mem_cons_of_mem _ List.mem_cons_self)
        · rw [List.mem_singleton.mp hw, ← hyo]; exact hiw
    · rcases List.mem_cons.mp hw with rfl | hw
      · exact hcw
      · exact hw)
  have cw := cwS (R := R) (rm := zm_rm dm lm mc ms) (mc := mc) (ms := ms) n C.1.2.2.2.2 hG rfl rfl rfl ⟨hyo, hmh⟩ ⟨Nat.le_trans hdp g1, by show 8 + (maxL + 11) + lm ≤ _; omega⟩
  refine zm_after (va_runS (As := As) (rest := rest) C.1 (hM H.size) cw ⟨zm_blind _ _ _ _, fun U hU hW => ⟨rfl, by rw [hU], ⟨ws, hag, by rw [hU]; exact hP, hD.weaken (fun _ _ _ _ => trivial)⟩, va_K.moved hW.alike C.2.2.1, zm_nw.warm hW C.2.2.2.2.1⟩⟩ rfl hn9 hl.1 hst (lv_room hcat) hd ⟨by rw [C.2.2.2.2.2.2.2.1]; exact hc9, by rw [C.2.2.2.2.2.2.2.2.1]; exact hs9⟩) hS (fun q hq => ?_) (fun r h' hp H1 locs1 ws1 a1 a2 a3 a4 => kk r h' hp H1 locs1 ls ws1 hl a1 a2 a3 a4)
  rcases hq with hq | hq
  · cases hz : h q with
    | none => exact absurd hz hq
    | some e1 =>
      obtain ⟨k, hk⟩ := hag.1 q e1 hz
      exact hD.2 k _ hk
  · exact C.2.2.2.1 q (Nat.le_trans hS.1 hq)
theorem zm_callI (C : zm_Cx E K cc own d lo rc rs nl) (M : zm_M) {idx b n : Nat} {As rest : List Value} {Post : zm_Po} (S : zm_SI own idx M n) (hn9 : As.length = n) (hd : decode cc pc = .ok (.invokespecial idx, 3)) (hst : st = As.reverse ++ .ref b :: rest) (hcat : (rest.map fun v => v.category).sum ≤ 8) (hdp : M.2.2.2.2.1 + 1 ≤ d) (hlo : 19 + M.2.2.1 + M.2.2.2.2.2.1 ≤ lo) (hc9 : nc + M.2.2.2.2.2.2.1 ≤ rc) (hs9 : ns + M.2.2.2.2.2.2.2 ≤ rs)
    (hM : zm_Ct K M (.ref b :: As) h Post) (kk : ∀ (r : Option Value) (h' : zm_H), Post r h' → zm_Go E (nc + M.2.2.2.2.2.2.1) (ns + M.2.2.2.2.2.2.2) (pc + 3) L (r.toList ++ rest) h') : zm_Go E nc ns pc L st h := by
  obtain ⟨p, l, e, R, s, m, args, below, meth, c, D, cA, A, nL, Q⟩ := E
  intro H locs ls ws hl hag hP hD hS
  obtain rfl := C.2.2.2.2.2.2.2.2.2.2
  obtain ⟨y, bytes, maxL, ret, dm, lm, mc, ms⟩ := M
  obtain ⟨⟨hcw, hiw, hmh⟩, hyi, hyr, h3⟩ := S
  have g1 := C.2.2.2.2.2.1
  have g2 := C.2.2.2.2.2.2.1
  dsimp only at hcw hiw hmh hyi hyr h3 hdp hlo hc9 hs9 kk
  subst hyr
  have hG : GoodIn wG (Cond.code y bytes maxL none :: wG) := zm_goodIn (fun w hw => by
    rcases List.mem_cons.mp hw with rfl | hw
    · exact hcw
    · exact hw)
  have cw := cwI (R := R) (rm := zm_rm dm lm mc ms) (mc := mc) (ms := ms) n C.1.2.2.2.2 hG rfl rfl rfl (C.1.2.2.2.2 _ hiw) (C.1.2.2.2.2 _ (h3 _ List.mem_cons_self)) (C.1.2.2.2.2 _ (h3 _ (List.mem_cons_of_mem _ List.mem_cons_self))) hyi hmh ⟨Nat.le_trans hdp g1, by show 8 + (maxL + 11) + lm ≤ _; omega⟩
  refine zm_after (va_runI (As := As) (rest := rest) C.1 (hM H.size) cw ⟨zm_blind _ _ _ _, fun U hU hW => ⟨rfl, by rw [hU], ⟨ws, hag, by rw [hU]; exact hP, hD.weaken (fun _ _ _ _ => trivial)⟩, va_K.moved hW.alike C.2.2.1, zm_nw.warm hW C.2.2.2.2.1⟩⟩ rfl hn9 hl.1 hst (lv_room hcat) hd ⟨by rw [C.2.2.2.2.2.2.2.1]; exact hc9, by rw [C.2.2.2.2.2.2.2.2.1]; exact hs9⟩) hS (fun q hq => ?_) (fun r h' hp H1 locs1 ws1 a1 a2 a3 a4 => kk r h' hp H1 locs1 ls ws1 hl a1 a2 a3 a4)
  rcases hq with hq | hq
  · cases hz : h q with
    | none => exact absurd hz hq
    | some e1 =>
      obtain ⟨k, hk⟩ := hag.1 q e1 hz
      exact hD.2 k _ hk
  · exact C.2.2.2.1 q (Nat.le_trans hS.1 hq)
theorem zm_callSN (C : zm_Cx E K cc own d lo rc rs nl) (M : zm_M) {idx n : Nat} {host : String} {As rest : List Value} {Post : zm_Po} (S : zm_SNs own idx host M n) (hn9 : As.length = n) (hd : decode cc pc = .ok (.invokestatic idx, 3)) (hst : st = As.reverse ++ rest) (hcat : (rest.map fun v => v.category).sum ≤ 8) (hdp : M.2.2.2.2.1 + 1 ≤ d) (hlo : 19 + M.2.2.1 + M.2.2.2.2.2.1 ≤ lo) (hc9 : nc + M.2.2.2.2.2.2.1 ≤ rc) (hs9 : ns + M.2.2.2.2.2.2.2 ≤ rs)
    (hM : zm_Ct K M As h Post) (kk : ∀ (r : Option Value) (h' : zm_H), Post r h' → zm_Go E (nc + M.2.2.2.2.2.2.1) (ns + M.2.2.2.2.2.2.2) (pc + 3) L (r.toList ++ rest) h') : zm_Go E nc ns pc L st h := by
  obtain ⟨p, l, e, R, s, m, args, below, meth, c, D, cA, A, nL, Q⟩ := E
  intro H locs ls ws hl hag hP hD hS
  obtain rfl := C.2.2.2.2.2.2.2.2.2.2
  obtain ⟨y, bytes, maxL, ret, dm, lm, mc, ms⟩ := M
  obtain ⟨⟨hcw, hiw, hmh⟩, hne, h3⟩ := S
  have g1 := C.2.2.2.2.2.1
  have g2 := C.2.2.2.2.2.2.1
  dsimp only at hcw hiw hmh hne h3 hdp hlo hc9 hs9 kk
  have hG : GoodIn wG (Cond.code y bytes maxL ret :: wG) := zm_goodIn (fun w hw => by
    rcases List.mem_cons.mp hw with rfl | hw
    · exact hcw
    · exact hw)
  have cw := va_cnB (R := R) (rm := zm_rm dm lm mc ms) (mc := mc) (ms := ms) n C.1.2.2.2.2 hG rfl rfl rfl (C.2.2.2.2.1 _ hne) (C.1.2.2.2.2 _ hiw) hmh ⟨Nat.le_trans hdp g1, by show 8 + (maxL + 11) + lm ≤ _; omega⟩
  refine zm_after (va_runSN (As := As) (rest := rest) C.1 (hM H.size) ⟨cw, C.1.2.2.2.2 _ h3, trivial⟩ ⟨zm_blind _ _ _ _, fun U hU hW => ⟨rfl, by rw [hU], ⟨ws, hag, by rw [hU]; exact hP, hD.weaken (fun _ _ _ _ => trivial)⟩, va_K.moved hW.alike C.2.2.1, zm_nw.warm hW C.2.2.2.2.1⟩⟩ rfl hn9 hl.1 hst (lv_room hcat) hd ⟨by rw [C.2.2.2.2.2.2.2.1]; exact hc9, by rw [C.2.2.2.2.2.2.2.2.1]; exact hs9⟩) hS (fun q hq => ?_) (fun r h' hp H1 locs1 ws1 a1 a2 a3 a4 => kk r h' hp H1 locs1 ls ws1 hl a1 a2 a3 a4)
  rcases hq with hq | hq
  · cases hz : h q with
    | none => exact absurd hz hq
    | some e1 =>
      obtain ⟨k, hk⟩ := hag.1 q e1 hz
      exact hD.2 k _ hk
  · exact C.2.2.2.1 q (Nat.le_trans hS.1 hq)
theorem zm_callIN (C : zm_Cx E K cc own d lo rc rs nl) (M : zm_M) {idx b n : Nat} {host : String} {As rest : List Value} {Post : zm_Po} (S : zm_SNi own idx host M n) (hn9 : As.length = n) (hd : decode cc pc = .ok (.invokespecial idx, 3)) (hst : st = As.reverse ++ .ref b :: rest) (hcat : (rest.map fun v => v.category).sum ≤ 8) (hdp : M.2.2.2.2.1 + 1 ≤ d) (hlo : 19 + M.2.2.1 + M.2.2.2.2.2.1 ≤ lo) (hc9 : nc + M.2.2.2.2.2.2.1 ≤ rc) (hs9 : ns + M.2.2.2.2.2.2.2 ≤ rs)
    (hM : zm_Ct K M (.ref b :: As) h Post) (kk : ∀ (r : Option Value) (h' : zm_H), Post r h' → zm_Go E (nc + M.2.2.2.2.2.2.1) (ns + M.2.2.2.2.2.2.2) (pc + 3) L (r.toList ++ rest) h') : zm_Go E nc ns pc L st h := by
  obtain ⟨p, l, e, R, s, m, args, below, meth, c, D, cA, A, nL, Q⟩ := E
  intro H locs ls ws hl hag hP hD hS
  obtain rfl := C.2.2.2.2.2.2.2.2.2.2
  obtain ⟨y, bytes, maxL, ret, dm, lm, mc, ms⟩ := M
  obtain ⟨⟨hcw, hiw, hmh⟩, hne, hyi, hyr, h3⟩ := S
  have g1 := C.2.2.2.2.2.1
  have g2 := C.2.2.2.2.2.2.1
  dsimp only at hcw hiw hmh hne hyi hyr h3 hdp hlo hc9 hs9 kk
  subst hyr
  have hG : GoodIn wG (Cond.code y bytes maxL none :: wG) := zm_goodIn (fun w hw => by
    rcases List.mem_cons.mp hw with rfl | hw
    · exact hcw
    · exact hw)
  have cw := va_cnB (R := R) (rm := zm_rm dm lm mc ms) (mc := mc) (ms := ms) n C.1.2.2.2.2 hG rfl rfl rfl (C.2.2.2.2.1 _ hne) (C.1.2.2.2.2 _ hiw) hmh ⟨Nat.le_trans hdp g1, by show 8 + (maxL + 11) + lm ≤ _; omega⟩
  refine zm_after (va_runIN (As := As) (rest := rest) C.1 (hM H.size) ⟨cw, hyi, C.1.2.2.2.2 _ h3⟩ ⟨zm_blind _ _ _ _, fun U hU hW => ⟨rfl, by rw [hU], ⟨ws, hag, by rw [hU]; exact hP, hD.weaken (fun _ _ _ _ => trivial)⟩, va_K.moved hW.alike C.2.2.1, zm_nw.warm hW C.2.2.2.2.1⟩⟩ rfl hn9 hl.1 hst (lv_room hcat) hd ⟨by rw [C.2.2.2.2.2.2.2.1]; exact hc9, by rw [C.2.2.2.2.2.2.2.2.1]; exact hs9⟩) hS (fun q hq => ?_) (fun r h' hp H1 locs1 ws1 a1 a2 a3 a4 => kk r h' hp H1 locs1 ls ws1 hl a1 a2 a3 a4)
  rcases hq with hq | hq
  · cases hz : h q with
    | none => exact absurd hz hq
    | some e1 =>
      obtain ⟨k, hk⟩ := hag.1 q e1 hz
      exact hD.2 k _ hk
  · exact C.2.2.2.1 q (Nat.le_trans hS.1 hq)
/-! ends -/
theorem zm_ireturn (C : zm_Cx E K cc own d lo rc rs nl) {Post : zm_Po} {mc ms : Nat} {ty : FieldType} {v : Int32} (Rt : zm_Rt E Post mc ms (some ty)) (h1 : nc ≤ mc) (h2 : ns ≤ ms) (hn : narrow ty (.int v) = .int v) (hd : decode cc pc = .ok (.ireturn, 1)) (k : Post (some (.int v)) h) : zm_Go E nc ns pc L [.int v] h := by
  obtain ⟨p, l, e, R, s, m, args, below, meth, c, D, cA, A, nL, Q⟩ := E
  intro H locs ls ws hl hag hP hD hS
  obtain ⟨hr, h0, rfl, rfl⟩ := Rt
  refine W.widen h1 h2 ?_
  exact W.zret C.1.1 C.1.2.1 hr hn (fun t ht hW => ⟨⟨_, h, rfl, k, ws, hag, by rw [ht]; exact hP, hD⟩, hS.F ht⟩) hS.2.2 hd C.2.1
theorem zm_lreturn (C : zm_Cx E K cc own d lo rc rs nl) {Post : zm_Po} {mc ms : Nat} {v : Int64} (Rt : zm_Rt E Post mc ms (some .long)) (h1 : nc ≤ mc) (h2 : ns ≤ ms) (hd : decode cc pc = .ok (.lreturn, 1)) (k : Post (some (.long v)) h) : zm_Go E nc ns pc L [.long v] h := by
  obtain ⟨p, l, e, R, s, m, args, below, meth, c, D, cA, A, nL, Q⟩ := E
  intro H locs ls ws hl hag hP hD hS
  obtain ⟨hr, h0, rfl, rfl⟩ := Rt
  refine W.widen h1 h2 ?_
  exact W.lret C.1.1 C.1.2.1 hr (fun t ht hW => ⟨⟨_, h, rfl, k, ws, hag, by rw [ht]; exact hP, hD⟩, hS.F ht⟩) hS.2.2 hd C.2.1
theorem zm_return (C : zm_Cx E K cc own d lo rc rs nl) {Post : zm_Po} {mc ms : Nat} (Rt : zm_Rt E Post mc ms none) (h1 : nc ≤ mc) (h2 : ns ≤ ms) (hd : decode cc pc = .ok (.return_, 1)) (k : Post none h) : zm_Go E nc ns pc L [] h := by
  obtain ⟨p, l, e, R, s, m, args, below, meth, c, D, cA, A, nL, Q⟩ := E
  intro H locs ls ws hl hag hP hD hS
  obtain ⟨hr, h0, rfl, rfl⟩ := Rt
  refine W.widen h1 h2 ?_
  exact W.vret C.1.1 C.1.2.1 hr (fun t ht hW => ⟨⟨_, h, rfl, k, ws, hag, by rw [ht]; exact hP, hD⟩, hS.F ht⟩) hS.2.2 hd C.2.1
end ZMF
/-! what a stretch of instructions asks, in words without the machine -/
def zm_gI (h : zm_H) (a ci k : Nat) (Kc : Int32 → Prop) : Prop := match h a with
  | some (.inr (c, fs)) => (match fs[k]? with
    | some (.int x) => c = ci ∧ Kc x
    | _ => False)
  | _ => False
def zm_gL (h : zm_H) (a ci k : Nat) (Kc : Int64 → Prop) : Prop := match h a with
  | some (.inr (c, fs)) => (match fs[k]? with
    | some (.long x) => c = ci ∧ Kc x
    | _ => False)
  | _ => False
def zm_gR (h : zm_H) (a ci k : Nat) (Kc : Nat → Prop) : Prop := match h a with
  | some (.inr (c, fs)) => (match fs[k]? with
    | some (.ref x) => c = ci ∧ Kc x
    | _ => False)
  | _ => False
def zm_pf (h : zm_H) (a ci k : Nat) (v : Value) (Kc : zm_H → Prop) : Prop := match h a with
  | some (.inr (c, fs)) => c = ci ∧ k < fs.length ∧ Kc (zm_set h a (.inr (c, fs.set k v)))
  | _ => False
def zm_al (K : zm_K) (t : Nat) (h : zm_H) (a : Nat) (Kc : Int32 → Prop) : Prop := match h a with
  | some (.inl (c, x)) => c = K.2.2 t ∧ Kc (nI x.1)
  | _ => False
/-- an int or a byte of an array -/
def zm_ld (K : zm_K) (t : Nat) (h : zm_H) (a : Nat) (i : Int32) (Kc : Int32 → Prop) : Prop := match h a with
  | some (.inl (c, n, .inl f)) => c = K.2.2 t ∧ vp_in i n ∧ Kc (f i.toNatClampNeg)
  | _ => False
def zm_lL (K : zm_K) (h : zm_H) (a : Nat) (i : Int32) (Kc : Int64 → Prop) : Prop := match h a with
  | some (.inl (c, n, .inr (.inl f))) => c = K.2.2 2 ∧ vp_in i n ∧ Kc (f i.toNatClampNeg)
  | _ => False
def zm_sI (K : zm_K) (h : zm_H) (a : Nat) (i x : Int32) (Kc : zm_H → Prop) : Prop := match h a with
  | some (.inl (c, n, .inl f)) => c = K.2.2 1 ∧ vp_in i n ∧ Kc (zm_set h a (.inl (c, n, .inl (upd f i.toNatClampNeg x))))
  | _ => False
def zm_sB (K : zm_K) (h : zm_H) (a : Nat) (i x : Int32) (Kc : zm_H → Prop) : Prop := match h a with
  | some (.inl (c, n, .inl f)) => c = K.2.2 0 ∧ vp_in i n ∧ Kc (zm_set h a (.inl (c, n, .inl (upd f i.toNatClampNeg (vp_nar .byte x)))))
  | _ => False
def zm_sL (K : zm_K) (h : zm_H) (a : Nat) (i : Int32) (x : Int64) (Kc : zm_H → Prop) : Prop := match h a with
  | some (.inl (c, n, .inr (.inl f))) => c = K.2.2 2 ∧ vp_in i n ∧ Kc (zm_set h a (.inl (c, n, .inr (.inl (vp_updL f i.toNatClampNeg x)))))
  | _ => False
def zm_cp (K : zm_K) (h : zm_H) (a0 : Nat) (sp : Int32) (a : Nat) (dp n : Int32) (Kc : zm_H → Prop) : Prop := match h a0, h a with
  | some (.inl (c0, n0, .inl f)), some (.inl (c1, n1, .inl g)) => c0 = K.2.2 0 ∧ c1 = K.2.2 0 ∧ ¬ sp < 0 ∧ ¬ dp < 0 ∧ ¬ n < 0 ∧ sp.toNatClampNeg + n.toNatClampNeg ≤ n0 ∧ dp.toNatClampNeg + n.toNatClampNeg ≤ n1 ∧ (∀ i, i < n.toNatClampNeg → fits .byte (.int (f (sp.toNatClampNeg + i))) = true) ∧ Kc (zm_set h a (.inl (c1, n1, .inl (va_cpy f g sp.toNatClampNeg dp.toNatClampNeg n.toNatClampNeg))))
  | _, _ => False
def zm_rc (h : zm_H) (a ci : Nat) : Prop := match h a with
  | some (.inr (c, _)) => c = ci
  | _ => False
def zm_cv (K : zm_K) (M : zm_M) (as : List Value) (h : zm_H) (Kc : zm_H → Prop) : Prop := ∃ Post : zm_Po, zm_Ct K M as h Post ∧ ∀ r h', Post r h' → r = none ∧ Kc h'
def zm_ci (K : zm_K) (M : zm_M) (as : List Value) (h : zm_H) (Kc : Int32 → zm_H → Prop) : Prop := ∃ Post : zm_Po, zm_Ct K M as h Post ∧ ∀ r h', Post r h' → ∃ x : Int32, r = some (.int x) ∧ Kc x h'
def zm_cl (K : zm_K) (M : zm_M) (as : List Value) (h : zm_H) (Kc : Int64 → zm_H → Prop) : Prop := ∃ Post : zm_Po, zm_Ct K M as h Post ∧ ∀ r h', Post r h' → ∃ x : Int64, r = some (.long x) ∧ Kc x h'
theorem zm_gI.ex {h : zm_H} {a ci k : Nat} {Kc : Int32 → Prop} (w : zm_gI h a ci k Kc) : ∃ fs x, h a = some (.inr (ci, fs)) ∧ fs[k]? = some (.int x) ∧ Kc x := by
  unfold zm_gI at w
  split at w
  · rename_i c fs he
    split at w
    · rename_i x hx
      obtain ⟨rfl, hk⟩ := w
      exact ⟨fs, x, he, hx, hk⟩
    · exact w.elim
  · exact w.elim
theorem zm_gL.ex {h : zm_H} {a ci k : Nat} {Kc : Int64 → Prop} (w : zm_gL h a ci k Kc) : ∃ fs x, h a = some (.inr (ci, fs)) ∧ fs[k]? = some (.long x) ∧ Kc x := by
  unfold zm_gL at w
  split at w
  · rename_i c fs he
    split at w
    · rename_i x hx
      obtain ⟨rfl, hk⟩ := w
      exact ⟨fs, x, he, hx, hk⟩
    · exact w.elim
  · exact w.elim
theorem zm_gR.ex {h : zm_H} {a ci k : Nat} {Kc : Nat → Prop} (w : zm_gR h a ci k Kc) : ∃ fs x, h a = some (.inr (ci, fs)) ∧ fs[k]? = some (.ref x) ∧ Kc x := by
  unfold zm_gR at w
  split at w
  · rename_i c fs he
    split at w
    · rename_i x hx
      obtain ⟨rfl, hk⟩ := w
      exact ⟨fs, x, he, hx, hk⟩
    · exact w.elim
  · exact w.elim
theorem zm_pf.ex {h : zm_H} {a ci k : Nat} {v : Value} {Kc : zm_H → Prop} (w : zm_pf h a ci k v Kc) : ∃ fs, h a = some (.inr (ci, fs)) ∧ k < fs.length ∧ Kc (zm_set h a (.inr (ci, fs.set k v))) := by
  unfold zm_pf at w
  split at w
  · rename_i c fs he
    obtain ⟨rfl, hk, hc⟩ := w
    exact ⟨fs, he, hk, hc⟩
  · exact w.elim
theorem zm_rc.ex {h : zm_H} {a ci : Nat} (w : zm_rc h a ci) : ∃ fs, h a = some (.inr (ci, fs)) := by
  unfold zm_rc at w
  split at w
  · rename_i c fs he
    subst w
    exact ⟨fs, he⟩
  · exact w.elim
section ZMP
variable {E : zm_E} {cc : ByteArray} {own : String} {K : zm_K} {d lo rc rs nl nc ns pc : Nat} {L L' : List (Nat × Value)} {st : List Value} {h : zm_H}
theorem zm_getI (C : zm_Cx E K cc own d lo rc rs nl) {idx ci k a : Nat} {Kc : Int32 → Prop} (F : zm_FF own idx ci k) (hd : decode cc pc = .ok (.getfield idx, 3)) (w : zm_gI h a ci k Kc) (kk : ∀ x, Kc x → zm_Go E nc ns (pc + 3) L (.int x :: st) h) : zm_Go E nc ns pc L (.ref a :: st) h := by
  obtain ⟨fs, x, he, hv, hk⟩ := w.ex
  exact zm_getf C F hd he hv (kk x hk)
theorem zm_getL (C : zm_Cx E K cc own d lo rc rs nl) {idx ci k a : Nat} {Kc : Int64 → Prop} (F : zm_FF own idx ci k) (hd : decode cc pc = .ok (.getfield idx, 3)) (w : zm_gL h a ci k Kc) (kk : ∀ x, Kc x → zm_Go E nc ns (pc + 3) L (.long x :: st) h) : zm_Go E nc ns pc L (.ref a :: st) h := by
  obtain ⟨fs, x, he, hv, hk⟩ := w.ex
  exact zm_getf C F hd he hv (kk x hk)
theorem zm_getR (C : zm_Cx E K cc own d lo rc rs nl) {idx ci k a : Nat} {Kc : Nat → Prop} (F : zm_FF own idx ci k) (hd : decode cc pc = .ok (.getfield idx, 3)) (w : zm_gR h a ci k Kc) (kk : ∀ x, Kc x → zm_Go E nc ns (pc + 3) L (.ref x :: st) h) : zm_Go E nc ns pc L (.ref a :: st) h := by
  obtain ⟨fs, x, he, hv, hk⟩ := w.ex
  exact zm_getf C F hd he hv (kk x hk)
theorem zm_put (C : zm_Cx E K cc own d lo rc rs nl) {idx ci k a : Nat} {v : Value} {ty : FieldType} {Kc : zm_H → Prop} (F : zm_FF own idx ci k) (FT : zm_FT ci) (FP : zm_FP own ci k ty false) (hn : narrow ty v = v) (hf : fits ty v = true) (hd : decode cc pc = .ok (.putfield idx, 3)) (w : zm_pf h a ci k v Kc) (kk : ∀ h', Kc h' → zm_Go E nc ns (pc + 3) L st h') : zm_Go E nc ns pc L (v :: .ref a :: st) h := by
  obtain ⟨fs, he, hl, hk⟩ := w.ex
  exact zm_putf C F FT FP hd he hl hn hf (kk _ hk)
theorem zm_putQ (C : zm_Cx E K cc own d lo rc rs nl) (hin9 : zm_in E) {idx ci k a : Nat} {v : Value} {ty : FieldType} {Kc : zm_H → Prop} (F : zm_FF own idx ci k) (FT : zm_FT ci) (FP : zm_FP own ci k ty true) (hn : narrow ty v = v) (hf : fits ty v = true) (hd : decode cc pc = .ok (.putfield idx, 3)) (w : zm_pf h a ci k v Kc) (kk : ∀ h', Kc h' → zm_Go E nc ns (pc + 3) L st h') : zm_Go E nc ns pc L (v :: .ref a :: st) h := by
  obtain ⟨fs, he, hl, hk⟩ := w.ex
  exact zm_putF C hin9 F FT FP hd he hl hn hf (kk _ hk)
theorem zm_lenA (C : zm_Cx E K cc own d lo rc rs nl) {a t : Nat} {Kc : Int32 → Prop} (ht : t < 3) (hd : decode cc pc = .ok (.arraylength, 1)) (w : zm_al K t h a Kc) (kk : ∀ x, Kc x → zm_Go E nc ns (pc + 1) L (.int x :: st) h) : zm_Go E nc ns pc L (.ref a :: st) h := by
  unfold zm_al at w
  split at w
  · rename_i c x he
    obtain ⟨rfl, hk⟩ := w
    exact zm_alen C hd ht he (kk _ hk)
  · exact w.elim
theorem zm_ldB (C : zm_Cx E K cc own d lo rc rs nl) {a : Nat} {i : Int32} {Kc : Int32 → Prop} (hd : decode cc pc = .ok (.baload, 1)) (w : zm_ld K 0 h a i Kc) (kk : ∀ x, Kc x → zm_Go E nc ns (pc + 1) L (.int x :: st) h) : zm_Go E nc ns pc L (.int i :: .ref a :: st) h := by
  unfold zm_ld at w
  split at w
  · rename_i c n f he
    obtain ⟨rfl, hi, hk⟩ := w
    exact zm_bald C hd he hi (kk _ hk)
  · exact w.elim
theorem zm_ldI (C : zm_Cx E K cc own d lo rc rs nl) {a : Nat} {i : Int32} {Kc : Int32 → Prop} (hd : decode cc pc = .ok (.iaload, 1)) (w : zm_ld K 1 h a i Kc) (kk : ∀ x, Kc x → zm_Go E nc ns (pc + 1) L (.int x :: st) h) : zm_Go E nc ns pc L (.int i :: .ref a :: st) h := by
  unfold zm_ld at w
  split at w
  · rename_i c n f he
    obtain ⟨rfl, hi, hk⟩ := w
    exact zm_iald C hd he hi (kk _ hk)
  · exact w.elim
theorem zm_ldL (C : zm_Cx E K cc own d lo rc rs nl) {a : Nat} {i : Int32} {Kc : Int64 → Prop} (hd : decode cc pc = .ok (.laload, 1)) (w : zm_lL K h a i Kc) (kk : ∀ x, Kc x → zm_Go E nc ns (pc + 1) L (.long x :: st) h) : zm_Go E nc ns pc L (.int i :: .ref a :: st) h := by
  unfold zm_lL at w
  split at w
  · rename_i c n f he
    obtain ⟨rfl, hi, hk⟩ := w
    exact zm_lald C hd he hi (kk _ hk)
  · exact w.elim
theorem zm_stI (C : zm_Cx E K cc own d lo rc rs nl) {a : Nat} {i x : Int32} {Kc : zm_H → Prop} (hd : decode cc pc = .ok (.iastore, 1)) (w : zm_sI K h a i x Kc) (kk : ∀ h', Kc h' → zm_Go E nc ns (pc + 1) L st h') : zm_Go E nc ns pc L (.int x :: .int i :: .ref a :: st) h := by
  unfold zm_sI at w
  split at w
  · rename_i c n f he
    obtain ⟨rfl, hi, hk⟩ := w
    exact zm_iast C hd he hi (kk _ hk)
  · exact w.elim
theorem zm_stB (C : zm_Cx E K cc own d lo rc rs nl) {a : Nat} {i x : Int32} {Kc : zm_H → Prop} (hd : decode cc pc = .ok (.bastore, 1)) (w : zm_sB K h a i x Kc) (kk : ∀ h', Kc h' → zm_Go E nc ns (pc + 1) L st h') : zm_Go E nc ns pc L (.int x :: .int i :: .ref a :: st) h := by
  unfold zm_sB at w
  split at w
  · rename_i c n f he
    obtain ⟨rfl, hi, hk⟩ := w
    exact zm_bast C hd he hi (kk _ hk)
  · exact w.elim
theorem zm_stL (C : zm_Cx E K cc own d lo rc rs nl) {a : Nat} {i : Int32} {x : Int64} {Kc : zm_H → Prop} (hd : decode cc pc = .ok (.lastore, 1)) (w : zm_sL K h a i x Kc) (kk : ∀ h', Kc h' → zm_Go E nc ns (pc + 1) L st h') : zm_Go E nc ns pc L (.long x :: .int i :: .ref a :: st) h := by
  unfold zm_sL at w
  split at w
  · rename_i c n f he
    obtain ⟨rfl, hi, hk⟩ := w
    exact zm_last C hd he hi (kk _ hk)
  · exact w.elim
theorem zm_copy (C : zm_Cx E K cc own d lo rc rs nl) {idx a0 a : Nat} {sp dp n : Int32} {Kc : zm_H → Prop} (hw1 : Cond.methodLink own idx arraycopyName ∈ wG) (hw2 : Cond.native arraycopyName ∈ wG) (hw3 : Cond.static arraycopyName ∈ wG) (hw4 : Cond.initialized "java/lang/System" ∈ wG) (hdp : 1 ≤ d) (hlo : 26 ≤ lo) (hcat : (st.map fun v => v.category).sum ≤ 8) (hd : decode cc pc = .ok (.invokestatic idx, 3)) (w : zm_cp K h a0 sp a dp n Kc) (kk : ∀ h', Kc h' → zm_Go E nc ns (pc + 3) L st h') : zm_Go E nc ns pc L (.int n :: .int dp :: .ref a :: .int sp :: .ref a0 :: st) h := by
  unfold zm_cp at w
  split at w
  · rename_i c0 n0 f c1 n1 g he0 he1
    obtain ⟨rfl, hc1, g1, g2, g3, g4, g5, g6, hk⟩ := w
    subst hc1
    exact zm_copyb C hw1 hw2 hw3 hw4 hdp hlo hcat hd he0 he1 g1 g2 g3 g4 g5 g6 (kk _ hk)
  · exact w.elim
theorem zm_Vv (C : zm_Cx E K cc own d lo rc rs nl) (M : zm_M) {idx ci b n : Nat} {As rest : List Value} {Kc : zm_H → Prop} (S : zm_SV own idx ci M n) (hn9 : As.length = n) (hd : decode cc pc = .ok (.invokevirtual idx, 3)) (hst : st = As.reverse ++ .ref b :: rest) (hcat : (rest.map fun v => v.category).sum ≤ 8) (hdp : M.2.2.2.2.1 + 1 ≤ d) (hlo : 19 + M.2.2.1 + M.2.2.2.2.2.1 ≤ lo) (hc9 : nc + M.2.2.2.2.2.2.1 ≤ rc) (hs9 : ns + M.2.2.2.2.2.2.2 ≤ rs) (wr : zm_rc h b ci) (w : zm_cv K M (.ref b :: As) h Kc) (kk : ∀ h', Kc h' → zm_Go E (nc + M.2.2.2.2.2.2.1) (ns + M.2.2.2.2.2.2.2) (pc + 3) L rest h') : zm_Go E nc ns pc L st h := by
  obtain ⟨fs, hb⟩ := wr.ex
  obtain ⟨Post, hM, hp⟩ := w
  refine zm_callV C M S hn9 hd hst hcat hdp hlo hc9 hs9 hb hM (fun r h' q => ?_)
  obtain ⟨rfl, hk⟩ := hp r h' q
  exact kk h' hk
theorem zm_Vi (C : zm_Cx E K cc own d lo rc rs nl) (M : zm_M) {idx ci b n : Nat} {As rest : List Value} {Kc : Int32 → zm_H → Prop} (S : zm_SV own idx ci M n) (hn9 : As.length = n) (hd : decode cc pc = .ok (.invokevirtual idx, 3)) (hst : st = As.reverse ++ .ref b :: rest) (hcat : (rest.map fun v => v.category).sum ≤ 8) (hdp : M.2.2.2.2.1 + 1 ≤ d) (hlo : 19 + M.2.2.1 + M.2.2.2.2.2.1 ≤ lo) (hc9 : nc + M.2.2.2.2.2.2.1 ≤ rc) (hs9 : ns + M.2.2.2.2.2.2.2 ≤ rs) (wr : zm_rc h b ci) (w : zm_ci K M (.ref b :: As) h Kc) (kk : ∀ x h', Kc x h' → zm_Go E (nc + M.2.2.2.2.2.2.1) (ns + M.2.2.2.2.2.2.2) (pc + 3) L (.int x :: rest) h') : zm_Go E nc ns pc L st h := by
  obtain ⟨fs, hb⟩ := wr.ex
  obtain ⟨Post, hM, hp⟩ := w
  refine zm_callV C M S hn9 hd hst hcat hdp hlo hc9 hs9 hb hM (fun r h' q => ?_)
  obtain ⟨x, rfl, hk⟩ := hp r h' q
  exact kk x h' hk
theorem zm_Vl (C : zm_Cx E K cc own d lo rc rs nl) (M : zm_M) {idx ci b n : Nat} {As rest : List Value} {Kc : Int64 → zm_H → Prop} (S : zm_SV own idx ci M n) (hn9 : As.length = n) (hd : decode cc pc = .ok (.invokevirtual idx, 3)) (hst : st = As.reverse ++ .ref b :: rest) (hcat : (rest.map fun v => v.category).sum ≤ 8) (hdp : M.2.2.2.2.1 + 1 ≤ d) (hlo : 19 + M.2.2.1 + M.2.2.2.2.2.1 ≤ lo) (hc9 : nc + M.2.2.2.2.2.2.1 ≤ rc) (hs9 : ns + M.2.2.2.2.2.2.2 ≤ rs) (wr : zm_rc h b ci) (w : zm_cl K M (.ref b :: As) h Kc) (kk : ∀ x h', Kc x h' → zm_Go E (nc + M.2.2.2.2.2.2.1) (ns + M.2.2.2.2.2.2.2) (pc + 3) L (.long x :: rest) h') : zm_Go E nc ns pc L st h := by
  obtain ⟨fs, hb⟩ := wr.ex
  obtain ⟨Post, hM, hp⟩ := w
  refine zm_callV C M S hn9 hd hst hcat hdp hlo hc9 hs9 hb hM (fun r h' q => ?_)
  obtain ⟨x, rfl, hk⟩ := hp r h' q
  exact kk x h' hk
theorem zm_Si (C : zm_Cx E K cc own d lo rc rs nl) (M : zm_M) {idx n : Nat} {As rest : List Value} {Kc : Int32 → zm_H → Prop} (S : zm_SS own idx M n) (hn9 : As.length = n) (hd : decode cc pc = .ok (.invokestatic idx, 3)) (hst : st = As.reverse ++ rest) (hcat : (rest.map fun v => v.category).sum ≤ 8) (hdp : M.2.2.2.2.1 + 1 ≤ d) (hlo : 19 + M.2.2.1 + M.2.2.2.2.2.1 ≤ lo) (hc9 : nc + M.2.2.2.2.2.2.1 ≤ rc) (hs9 : ns + M.2.2.2.2.2.2.2 ≤ rs) (w : zm_ci K M As h Kc) (kk : ∀ x h', Kc x h' → zm_Go E (nc + M.2.2.2.2.2.2.1) (ns + M.2.2.2.2.2.2.2) (pc + 3) L (.int x :: rest) h') : zm_Go E nc ns pc L st h := by
  obtain ⟨Post, hM, hp⟩ := w
  refine zm_callS C M S hn9 hd hst hcat hdp hlo hc9 hs9 hM (fun r h' q => ?_)
  obtain ⟨x, rfl, hk⟩ := hp r h' q
  exact kk x h' hk
theorem zm_Sl (C : zm_Cx E K cc own d lo rc rs nl) (M : zm_M) {idx n : Nat} {As rest : List Value} {Kc : Int64 → zm_H → Prop} (S : zm_SS own idx M n) (hn9 : As.length = n) (hd : decode cc pc = .ok (.invokestatic idx, 3)) (hst : st = As.reverse ++ rest) (hcat : (rest.map fun v => v.category).sum ≤ 8) (hdp : M.2.2.2.2.1 + 1 ≤ d) (hlo : 19 + M.2.2.1 + M.2.2.2.2.2.1 ≤ lo) (hc9 : nc + M.2.2.2.2.2.2.1 ≤ rc) (hs9 : ns + M.2.2.2.2.2.2.2 ≤ rs) (w : zm_cl K M As h Kc) (kk : ∀ x h', Kc x h' → zm_Go E (nc + M.2.2.2.2.2.2.1) (ns + M.2.2.2.2.2.2.2) (pc + 3) L (.long x :: rest) h') : zm_Go E nc ns pc L st h := by
  obtain ⟨Post, hM, hp⟩ := w
  refine zm_callS C M S hn9 hd hst hcat hdp hlo hc9 hs9 hM (fun r h' q => ?_)
  obtain ⟨x, rfl, hk⟩ := hp r h' q
  exact kk x h' hk
theorem zm_Ni (C : zm_Cx E K cc own d lo rc rs nl) (M : zm_M) {idx n : Nat} {host : String} {As rest : List Value} {Kc : Int32 → zm_H → Prop} (S : zm_SNs own idx host M n) (hn9 : As.length = n) (hd : decode cc pc = .ok (.invokestatic idx, 3)) (hst : st = As.reverse ++ rest) (hcat : (rest.map fun v => v.category).sum ≤ 8) (hdp : M.2.2.2.2.1 + 1 ≤ d) (hlo : 19 + M.2.2.1 + M.2.2.2.2.2.1 ≤ lo) (hc9 : nc + M.2.2.2.2.2.2.1 ≤ rc) (hs9 : ns + M.2.2.2.2.2.2.2 ≤ rs) (w : zm_ci K M As h Kc) (kk : ∀ x h', Kc x h' → zm_Go E (nc + M.2.2.2.2.2.2.1) (ns + M.2.2.2.2.2.2.2) (pc + 3) L (.int x :: rest) h') : zm_Go E nc ns pc L st h := by
  obtain ⟨Post, hM, hp⟩ := w
  refine zm_callSN C M S hn9 hd hst hcat hdp hlo hc9 hs9 hM (fun r h' q => ?_)
  obtain ⟨x, rfl, hk⟩ := hp r h' q
  exact kk x h' hk
theorem zm_Iv (C : zm_Cx E K cc own d lo rc rs nl) (M : zm_M) {idx b n : Nat} {As rest : List Value} {Kc : zm_H → Prop} (S : zm_SI own idx M n) (hn9 : As.length = n) (hd : decode cc pc = .ok (.invokespecial idx, 3)) (hst : st = As.reverse ++ .ref b :: rest) (hcat : (rest.map fun v => v.category).sum ≤ 8) (hdp : M.2.2.2.2.1 + 1 ≤ d) (hlo : 19 + M.2.2.1 + M.2.2.2.2.2.1 ≤ lo) (hc9 : nc + M.2.2.2.2.2.2.1 ≤ rc) (hs9 : ns + M.2.2.2.2.2.2.2 ≤ rs) (w : zm_cv K M (.ref b :: As) h Kc) (kk : ∀ h', Kc h' → zm_Go E (nc + M.2.2.2.2.2.2.1) (ns + M.2.2.2.2.2.2.2) (pc + 3) L rest h') : zm_Go E nc ns pc L st h := by
  obtain ⟨Post, hM, hp⟩ := w
  refine zm_callI C M S hn9 hd hst hcat hdp hlo hc9 hs9 hM (fun r h' q => ?_)
  obtain ⟨rfl, hk⟩ := hp r h' q
  exact kk h' hk
theorem zm_Nv (C : zm_Cx E K cc own d lo rc rs nl) (M : zm_M) {idx b n : Nat} {host : String} {As rest : List Value} {Kc : zm_H → Prop} (S : zm_SNi own idx host M n) (hn9 : As.length = n) (hd : decode cc pc = .ok (.invokespecial idx, 3)) (hst : st = As.reverse ++ .ref b :: rest) (hcat : (rest.map fun v => v.category).sum ≤ 8) (hdp : M.2.2.2.2.1 + 1 ≤ d) (hlo : 19 + M.2.2.1 + M.2.2.2.2.2.1 ≤ lo) (hc9 : nc + M.2.2.2.2.2.2.1 ≤ rc) (hs9 : ns + M.2.2.2.2.2.2.2 ≤ rs) (w : zm_cv K M (.ref b :: As) h Kc) (kk : ∀ h', Kc h' → zm_Go E (nc + M.2.2.2.2.2.2.1) (ns + M.2.2.2.2.2.2.2) (pc + 3) L rest h') : zm_Go E nc ns pc L st h := by
  obtain ⟨Post, hM, hp⟩ := w
  refine zm_callIN C M S hn9 hd hst hcat hdp hlo hc9 hs9 hM (fun r h' q => ?_)
  obtain ⟨rfl, hk⟩ := hp r h' q
  exact kk h' hk
end ZMP
