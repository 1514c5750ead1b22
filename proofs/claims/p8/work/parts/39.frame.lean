/-! two heaps side by side: a call changes only its own -/
def zm_un (h1 h2 : zm_H) : zm_H := fun q => match h1 q with
  | some e => some e
  | none => h2 q
theorem zm_un_l {h1 h2 : zm_H} {q : Nat} {e : va_E} (h : h1 q = some e) : zm_un h1 h2 q = some e := by
  unfold zm_un
  rw [h]
theorem zm_un_r {h1 h2 : zm_H} {q : Nat} (h : h1 q = none) : zm_un h1 h2 q = h2 q := by
  unfold zm_un
  rw [h]
/-- apart -/
def zm_dj (h1 h2 : zm_H) : Prop := ∀ q, h1 q ≠ none → h2 q = none
theorem zm_dj.sy {h1 h2 : zm_H} (d : zm_dj h1 h2) : zm_dj h2 h1 := fun q hq => by
  cases e : h1 q with
  | none => rfl
  | some x => exact absurd (d q (by rw [e]; exact fun z => by cases z)) hq
theorem zm_un_c {h1 h2 : zm_H} (d : zm_dj h1 h2) : zm_un h1 h2 = zm_un h2 h1 := by
  funext q
  cases e : h1 q with
  | none =>
    rw [zm_un_r e]
    cases e2 : h2 q with
    | none => rw [zm_un_r e2, e]
    | some x => rw [zm_un_l e2]
  | some x => rw [zm_un_l e, zm_un_r (d q (by rw [e]; exact fun z => by cases z)), e]
def zm_nd (ws : va_W) : Prop := (ws.map Prod.fst).Nodup
theorem zm_nd.of {A : Nat → Prop} {ws : va_W} (h : va_D A ws) : zm_nd ws := by
  unfold zm_nd
  refine List.pairwise_iff_getElem.mpr (fun i j hi hj hij e => ?_)
  rw [List.length_map] at hi hj
  rw [List.getElem_map, List.getElem_map] at e
  have := h.1 i j ws[i] ws[j] (List.getElem?_eq_getElem hi) (List.getElem?_eq_getElem hj) e
  omega
theorem zm_nd.to {A : Nat → Prop} {ws : va_W} (h : zm_nd ws) (hA : ∀ q ∈ ws, A q.1) : va_D A ws := by
  refine ⟨fun i j p q hi hj e => ?_, fun k q hk => hA q (List.mem_of_getElem? hk)⟩
  have h2 := List.pairwise_iff_getElem.mp h
  obtain ⟨li, rfl⟩ := List.getElem?_eq_some_iff.mp hi
  obtain ⟨lj, rfl⟩ := List.getElem?_eq_some_iff.mp hj
  rcases Nat.lt_trichotomy i j with z | z | z
  · exact absurd (by rw [List.getElem_map, List.getElem_map]; exact e) (h2 i j (by rw [List.length_map]; exact li) (by rw [List.length_map]; exact lj) z)
  · exact z
  · exact absurd (by rw [List.getElem_map, List.getElem_map]; exact e.symm) (h2 j i (by rw [List.length_map]; exact lj) (by rw [List.length_map]; exact li) z)
theorem zm_Ag.mem {h : zm_H} {ws : va_W} (g : zm_Ag h ws) {a : Nat} {e : va_E} : (a, e) ∈ ws ↔ h a = some e := by
  refine ⟨fun m => ?_, fun m => ?_⟩
  · obtain ⟨k, hk⟩ := List.mem_iff_getElem?.mp m
    exact g.2 k a e hk
  · obtain ⟨k, hk⟩ := g.1 a e m
    exact List.mem_of_getElem? hk
theorem zm_Ag.of {h : zm_H} {ws : va_W} (g : ∀ a e, (a, e) ∈ ws ↔ h a = some e) : zm_Ag h ws := by
  refine ⟨fun a e m => ?_, fun k a e m => (g a e).mp (List.mem_of_getElem? m)⟩
  obtain ⟨k, hk⟩ := List.mem_iff_getElem?.mp ((g a e).mpr m)
  exact ⟨k, hk⟩
theorem zm_frame {K : zm_K} {M : zm_M} {as : List Value} {h1 h2 : zm_H} {Post : zm_Po} (hM : zm_Ct K M as h1 Post) (hd : zm_dj h1 h2) : zm_Ct K M as (zm_un h1 h2) (fun r h' => ∃ h1', Post r h1' ∧ zm_dj h1' h2 ∧ h' = zm_un h1' h2) := by
  intro sz p e hadm hc hk s m args below hfr hS hP hK
  obtain ⟨hargs, hsz, ⟨ws, hag, hPw, hD0⟩, hKk, hnw⟩ := hP
  have nd := zm_nd.of hD0
  have w1m : ∀ a e, (a, e) ∈ ws.filter (fun q => (h1 q.1).isSome) ↔ h1 a = some e := by
    intro a e
    rw [List.mem_filter, hag.mem]
    refine ⟨fun q => ?_, fun q => ⟨zm_un_l q, by show (h1 a).isSome = true; rw [q]; rfl⟩⟩
    obtain ⟨q1, q2⟩ := q
    cases e1 : h1 a with
    | none =>
      have q3 : (h1 a).isSome = true := q2
      rw [e1] at q3
      cases q3
    | some x =>
      rw [zm_un_l e1] at q1
      exact q1
  have w2m : ∀ a e, (a, e) ∈ ws.filter (fun q => (h1 q.1).isNone) ↔ h1 a = none ∧ h2 a = some e := by
    intro a e
    rw [List.mem_filter, hag.mem]
    refine ⟨fun q => ?_, fun q => ⟨(zm_un_r q.1).trans q.2, by show (h1 a).isNone = true; rw [q.1]; rfl⟩⟩
    obtain ⟨q1, q2⟩ := q
    cases e1 : h1 a with
    | none =>
      rw [zm_un_r e1] at q1
      exact ⟨rfl, q1⟩
    | some x =>
      have q3 : (h1 a).isNone = true := q2
      rw [e1] at q3
      cases q3
  have at9 : ∀ q ∈ ws, va_at K.2.1 vwCl q s.heap := fun q hq => by
    obtain ⟨k, hk⟩ := List.mem_iff_getElem?.mp hq
    exact hPw k q hk
  have nd1 : zm_nd (ws.filter (fun q => (h1 q.1).isSome)) := List.Nodup.sublist (List.Sublist.map _ List.filter_sublist) nd
  have nd2 : zm_nd (ws.filter (fun q => (h1 q.1).isNone)) := List.Nodup.sublist (List.Sublist.map _ List.filter_sublist) nd
  obtain ⟨n, o, g1, g2, g3, ⟨g4, gF⟩, Ls, g5, g6⟩ := hM sz p e hadm hc hk s m args below hfr hS ⟨hargs, hsz, ⟨_, zm_Ag.of w1m, fun k q hq => at9 q (List.mem_filter.mp (List.mem_of_getElem? hq)).1, nd1.to fun _ _ => trivial⟩, hKk, hnw⟩ hK
  have sub : ∀ q, zm_A h1 sz q → zm_A (zm_un h1 h2) sz q := fun q hq => by
    rcases hq with z | z
    · refine Or.inl ?_
      cases e1 : h1 q with
      | none => exact absurd e1 z
      | some x =>
        rw [zm_un_l e1]
        exact fun w => by cases w
    · exact Or.inr z
  refine ⟨n, o, g1, g2, g3, ⟨?_, ⟨gF.1, fun q z1 z2 => gF.2 q z1 (fun w => z2 (sub q w))⟩⟩, Ls, g5, fun q hq => sub _ (g6 q hq)⟩
  obtain ⟨r, h1', er, hPost, w1', ag1, P1, D1⟩ := g4
  have in2 : ∀ a e, h2 a = some e → a < sz ∧ h1 a = none := fun a e he => by
    have n1 : h1 a = none := hd.sy a (by rw [he]; exact fun z => by cases z)
    have := (at9 (a, e) ((hag.mem).mpr ((zm_un_r n1).trans he))).lt
    rw [hsz] at this
    exact ⟨this, n1⟩
  have dj : zm_dj h1' h2 := fun q hq => by
    cases e2 : h2 q with
    | none => rfl
    | some x =>
      obtain ⟨l1, n1⟩ := in2 q x e2
      cases e1 : h1' q with
      | none => exact absurd e1 hq
      | some y =>
        obtain ⟨k, hk⟩ := ag1.1 q y e1
        rcases D1.2 k _ hk with z | z
        · exact absurd n1 z
        · exact absurd z (by show ¬ sz ≤ q; omega)
  refine ⟨r, zm_un h1' h2, er, ⟨h1', hPost, dj, rfl⟩, w1' ++ ws.filter (fun q => (h1 q.1).isNone), zm_Ag.of (fun a e => ?_), fun k q hq => ?_, ?_⟩
  · rw [List.mem_append, ag1.mem, w2m]
    refine ⟨fun z => ?_, fun z => ?_⟩
    · rcases z with z | z
      · exact zm_un_l z
      · rw [zm_un_r (dj.sy a (by rw [z.2]; exact fun w => by cases w))]
        exact z.2
    · cases e1 : h1' a with
      | none =>
        rw [zm_un_r e1] at z
        exact Or.inr ⟨(in2 a e z).2, z⟩
      | some x =>
        rw [zm_un_l e1] at z
        exact Or.inl z
  · rcases List.mem_append.mp (List.mem_of_getElem? hq) with z | z
    · obtain ⟨k, hk⟩ := List.mem_iff_getElem?.mp z
      exact P1 k q hk
    · have z2 := (w2m q.1 q.2).mp z
      have z3 := in2 _ _ z2.2
      refine (at9 q (List.mem_filter.mp z).1).kept (gF.2 q.1 (by rw [hsz]; exact z3.1) (fun w => ?_))
      rcases w with w | w
      · exact w z3.2
      · exact absurd w (by have := z3.1; omega)
  · refine zm_nd.to ?_ (fun q hq => ?_)
    · unfold zm_nd
      rw [List.map_append]
      refine List.nodup_append.mpr ⟨zm_nd.of D1, nd2, fun a ha b hb e => ?_⟩
      subst e
      obtain ⟨q1, m1, rfl⟩ := List.mem_map.mp ha
      obtain ⟨q2, m2, e2⟩ := List.mem_map.mp hb
      have z1 := (ag1.mem (a := q1.1) (e := q1.2)).mp m1
      have z2 := (w2m q2.1 q2.2).mp m2
      rw [e2] at z2
      have := dj q1.1 (by rw [z1]; exact fun w => by cases w)
      rw [this] at z2
      cases z2.2
    · rcases List.mem_append.mp hq with z | z
      · obtain ⟨k, hk⟩ := List.mem_iff_getElem?.mp z
        exact sub _ (D1.2 k q hk)
      · have z2 := (w2m q.1 q.2).mp z
        refine Or.inl ?_
        rw [zm_un_r z2.1, z2.2]
        exact fun w => by cases w
