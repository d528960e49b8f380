/-! THE WORLD OVER AN INDEX: cells by a list of indices, an address map and what each holds -/
def cwl {α : Type} (L : List α) (A : α → Nat) (E : α → va_E) : va_W := L.map (fun x => (A x, E x))
theorem cwl_at {α : Type} {L : List α} {A : α → Nat} {E : α → va_E} {k : Nat} {x : α} (h : L[k]? = some x) : (cwl L A E)[k]? = some (A x, E x) := by
  simp [cwl, h]
theorem cwl_of {α : Type} {L : List α} {A : α → Nat} {E : α → va_E} {k : Nat} {q : Nat × va_E} (h : (cwl L A E)[k]? = some q) : ∃ x, L[k]? = some x ∧ q = (A x, E x) := by
  simp only [cwl, List.getElem?_map, Option.map_eq_some_iff] at h
  obtain ⟨x, h1, h2⟩ := h
  exact ⟨x, h1, h2.symm⟩
theorem cwl_inj {α : Type} {L : List α} {A : α → Nat} {E : α → va_E} {A0 : Nat → Prop} (hD : va_D A0 (cwl L A E)) {i j : Nat} {x y : α} (hi : L[i]? = some x) (hj : L[j]? = some y) (h : A x = A y) : i = j :=
  hD.1 i j _ _ (cwl_at hi) (cwl_at hj) h
theorem cwl_set {α : Type} {L : List α} {A : α → Nat} {E E' : α → va_E} {A0 : Nat → Prop} (hD : va_D A0 (cwl L A E)) {k : Nat} {x : α} (hk : L[k]? = some x) {e : va_E} (h1 : E' x = e) (h2 : ∀ y, y ≠ x → E' y = E y) : (cwl L A E).set k (A x, e) = cwl L A E' := by
  apply List.ext_getElem?
  intro j
  rw [List.getElem?_set]
  by_cases hj : k = j
  · subst hj
    have hlt : k < (cwl L A E).length := (List.getElem?_eq_some_iff.mp (cwl_at (A := A) (E := E) hk)).1
    simp only [if_true, if_pos hlt]
    rw [cwl_at hk, h1]
  · rw [if_neg hj]
    cases hy : L[j]? with
    | none => simp [cwl, hy]
    | some y =>
      rw [cwl_at hy, cwl_at hy, h2 y (fun he => hj (cwl_inj hD hk (by rw [hy, he]) rfl))]
theorem cwl_D {α : Type} {L : List α} {A : α → Nat} {E E' : α → va_E} {A0 : Nat → Prop} (hD : va_D A0 (cwl L A E)) : va_D A0 (cwl L A E') := by
  refine ⟨fun i j p q hi hj he => ?_, fun k q hk => ?_⟩
  · obtain ⟨x, h1, rfl⟩ := cwl_of hi
    obtain ⟨y, h2, rfl⟩ := cwl_of hj
    exact cwl_inj hD h1 h2 he
  · obtain ⟨x, h1, rfl⟩ := cwl_of hk
    exact hD.2 k (A x, E x) (cwl_at h1)
theorem cwl_A {α : Type} {L : List α} {A : α → Nat} {E E' : α → va_E} {sz q : Nat} (h : va_A (cwl L A E) sz q) : va_A (cwl L A E') sz q := by
  rcases h with ⟨k, e, h⟩ | h
  · obtain ⟨x, h1, h2⟩ := cwl_of h
    refine Or.inl ⟨k, E' x, ?_⟩
    rw [cwl_at h1]
    have := congrArg Prod.fst h2
    simp only at this
    rw [this]
  · exact Or.inr h
theorem cwl_up {α : Type} {L : List α} {A : α → Nat} {E : α → va_E} {sz sz' q : Nat} (hs : sz ≤ sz') (h : va_A (cwl L A E) sz' q) : va_A (cwl L A E) sz q := by
  rcases h with h | h
  · exact Or.inl h
  · exact Or.inr (Nat.le_trans hs h)
theorem cwl_at_in {α : Type} {L : List α} {A : α → Nat} {E : α → va_E} {sz : Nat} {x : α} (h : x ∈ L) : va_A (cwl L A E) sz (A x) := by
  obtain ⟨k, hk⟩ := List.getElem?_of_mem h
  exact va_A.in (cwl_at hk)

/-- what is the same for the whole claim: classes' numbers and slots, array classes, what stands outside the worlds -/
abbrev ZT : Type := va_G × (ClassId × ClassId × ClassId × ClassId) × ((Nat → Prop) → State → Heap → Prop)
abbrev zG (Z : ZT) : va_G := Z.1
abbrev zI (Z : ZT) : ClassId := Z.2.1.1
abbrev zR (Z : ZT) : ClassId := Z.2.1.2.1
abbrev zJ (Z : ZT) : ClassId := Z.2.1.2.2.1
abbrev zD (Z : ZT) : ClassId := Z.2.1.2.2.2
abbrev zS (Z : ZT) : (Nat → Prop) → State → Heap → Prop := Z.2.2
abbrev zT (Z : ZT) : List (ClassId × FieldType) := [(zI Z, .int), (zR Z, .object "SongRefinery$State"), (zJ Z, .long), (zD Z, .double)]
/-- what stands outside the worlds bears warming, calls and changes of the worlds, and gives the nest mates' words -/
def zOK (Z : ZT) : Prop :=
  (∀ (A : Nat → Prop) (u U : State) (H : Heap), u.WarmedH U.vm → zS Z A u H → zS Z A U H) ∧
  (∀ (A : Nat → Prop) (u U : State) (H : Heap), U.vm = u.vm → zS Z A u H → zS Z A U H) ∧
  (∀ (A : Nat → Prop) (U : State) (H H1 : Heap), (∀ a : Nat, a < H.size → ¬ A a → H1[a]? = H[a]?) → zS Z A U H → zS Z A U H1) ∧
  (∀ (A B : Nat → Prop) (U : State) (H : Heap), (∀ q, B q → A q) → zS Z A U H → zS Z B U H) ∧
  (∀ (A : Nat → Prop) (U : State) (H : Heap), zS Z A U H → ∀ w ∈ NLW, va_Nw w U)
/-- a world in a method's walk -/
def wX {α : Type} (Z : ZT) (L : List α) (A : α → Nat) (E : α → va_E) (A0 : Nat → Prop) (s : State) (H : Heap) (locs : List Loc) : Prop :=
  va_P (zG Z) vwCl (cwl L A E) H ∧ va_D A0 (cwl L A E) ∧ va_S A0 s.heap H locs ∧ va_K (zG Z) vwCl (zT Z) s ∧ (∀ q : Nat, s.heap.size ≤ q → A0 q) ∧ zS Z A0 s s.heap
/-- a world at a method's start, and at its end -/
def pB {α : Type} (Z : ZT) (L : List α) (A : α → Nat) (E : α → va_E) (sz : Nat) (U : State) : Prop :=
  U.heap.size = sz ∧ va_P (zG Z) vwCl (cwl L A E) U.heap ∧ va_K (zG Z) vwCl (zT Z) U ∧ va_D (fun _ => True) (cwl L A E) ∧ zS Z (va_A (cwl L A E) sz) U U.heap
def qB {α : Type} (Z : ZT) (L : List α) (A : α → Nat) (E : α → va_E) (F : Nat → Prop) (t : State) : Prop :=
  va_P (zG Z) vwCl (cwl L A E) t.heap ∧ va_D F (cwl L A E)
/-- the cells that a method may change -/
abbrev fA {α : Type} (L : List α) (A : α → Nat) (E : α → va_E) (sz : Nat) : Nat → Prop := va_A (cwl L A E) sz
abbrev rmD (d mc ms : Nat) : Room := { frames := d, cells := mc, slots := ms, locals := 40 * d }
theorem wX_in {α : Type} {Z : ZT} {L : List α} {A : α → Nat} {E : α → va_E} {sz : Nat} {s : State} (h : pB Z L A E sz s) : wX Z L A E (fA L A E sz) s s.heap [] := by
  obtain ⟨h1, h2, h3, h4, h5⟩ := h
  subst h1
  exact ⟨h2, h4.self, va_S.rf, h3, fun q h => Or.inr h, h5⟩
theorem wX_sz {α : Type} {Z : ZT} {L : List α} {A : α → Nat} {E : α → va_E} {A0 : Nat → Prop} {s : State} {H : Heap} {locs : List Loc} (h : wX Z L A E A0 s H locs) : s.heap.size ≤ H.size := h.2.2.1.1
/-- a callee's cells are the caller's own -/
theorem wX_fA {α : Type} {Z : ZT} {L : List α} {A : α → Nat} {E : α → va_E} {A0 : Nat → Prop} {s : State} {H : Heap} {locs : List Loc} (h : wX Z L A E A0 s H locs) : ∀ q, fA L A E H.size q → A0 q := by
  intro q hq
  rcases hq with ⟨k, e, hq⟩ | hq
  · exact h.2.1.2 k _ hq
  · exact h.2.2.2.2.1 q (Nat.le_trans (wX_sz h) hq)
/-- a callee's start -/
theorem wX_pre {α : Type} {Z : ZT} (hZ : zOK Z) {L : List α} {A : α → Nat} {E : α → va_E} {A0 : Nat → Prop} {s : State} {H : Heap} {locs : List Loc} (h : wX Z L A E A0 s H locs) {U : State} (hU : U.heap = H) (hW : s.WarmedH U.vm) : pB Z L A E H.size U := by
  have hf := wX_fA h
  obtain ⟨h1, h2, h3, h4, h5, h6⟩ := h
  refine ⟨by rw [hU], by rw [hU]; exact h1, va_K.moved hW.alike h4, h2.weaken (fun _ _ _ _ => trivial), ?_⟩
  rw [hU]
  exact hZ.2.2.2.1 _ _ _ _ hf (hZ.2.2.1 _ _ _ _ h3.2.1 (hZ.1 _ _ _ _ hW h6))
theorem pB_blind {α : Type} {Z : ZT} (hZ : zOK Z) {L : List α} {A : α → Nat} {E : α → va_E} {sz : Nat} {As : List Value} : FrameBlind (va_Pc As (pB Z L A E sz)) := by
  intro a U g mk q
  obtain ⟨q0, q1, qP, qK, qD, qS⟩ := q
  exact ⟨q0, q1, qP, va_K.moved (u := U) (U := U.calling g mk a) (Vm.Alike.refl U.vm) qK, qD, hZ.2.1 _ U (U.calling g mk a) _ rfl qS⟩
/-- behind a callee -/
theorem wX_back {α : Type} {Z : ZT} {L L' : List α} {A A' : α → Nat} {E E' : α → va_E} {A0 : Nat → Prop} {s t : State} {H H1 : Heap} {locs locs1 : List Loc} (h : wX Z L A E A0 s H locs) (ht : t.heap = H1) (hq : qB Z L' A' E' (fA L A E H.size) t) (hS : va_S A0 s.heap H1 locs1) : wX Z L' A' E' A0 s H1 locs1 := by
  have hf := wX_fA h
  obtain ⟨h1, h2, h3, h4, h5, h6⟩ := h
  refine ⟨by rw [← ht]; exact hq.1, hq.2.weaken (fun _ _ _ h => hf _ h), hS, h4, h5, h6⟩
theorem wX_out {α : Type} {Z : ZT} {L : List α} {A : α → Nat} {E : α → va_E} {A0 : Nat → Prop} {s t : State} {H : Heap} {locs : List Loc} (h : wX Z L A E A0 s H locs) (ht : t.heap = H) : qB Z L A E A0 t ∧ va_F A0 s t :=
  ⟨⟨by rw [ht]; exact h.1, h.2.1⟩, h.2.2.1.F ht⟩
/-- the same world, said of another picture -/
theorem wX_eq {α : Type} {Z : ZT} {L : List α} {A : α → Nat} {E E' : α → va_E} {A0 : Nat → Prop} {s : State} {H : Heap} {locs : List Loc} (h : wX Z L A E A0 s H locs) (e : ∀ x ∈ L, E x = E' x) : wX Z L A E' A0 s H locs := by
  have e2 : cwl L A E = cwl L A E' := by
    unfold cwl
    exact List.map_congr_left (fun x hx => by rw [e x hx])
  unfold wX at h ⊢
  rw [← e2]
  exact h

section RW1
variable {p : Program} {l : Launch} {e : Env} {R : Room} {s : State} {m : MethodId} {args : Array Value} {below : List Frame} {meth : Method} {c : Code} {H : Heap} {locs : List Loc} {cells slots : Nat} {Q : State → Prop}
variable {α : Type} {Z : ZT} {L : List α} {A : α → Nat} {E : α → va_E} {A0 : Nat → Prop} {cc : ByteArray} {nL pc index : Nat} {own : String} {ls : Array Slot} {rest : List Value}
/-- a field is read -/
theorem r_get (S : CallFix p m c cc nL s args GT own) (hW : wX Z L A E A0 s H locs) {x : α} (hx : x ∈ L) {ci : Nat} {fs : List Value} (he : E x = .inr (ci, fs)) {C : String} {T : u_T} {N : Nat} (hc : vwCl[ci]? = some (C, T, N)) (hin : ∀ w ∈ u_ws C T N, w ∈ GT) (k : Nat) (hk : k < N) (hlink : Cond.fieldLink own index (T k).1 (T k).2.1 (T k).2.2.1 ∈ GT) {v : Value} (hv : fs[k]? = some v) (hdg : decode cc pc = .ok (.getfield index, 3))
    (kk : W p l e R s m args below meth c H locs cells slots Q (F0 m (pc + 3) ls (v :: rest))) : W p l e R s m args below meth c H locs cells slots Q (F0 m pc ls (.ref (A x) :: rest)) := by
  obtain ⟨h1, h2, h3, h4, h5, h6⟩ := hW
  obtain ⟨hx0, hb, hml, hown, hts⟩ := S
  obtain ⟨q0, hq0⟩ := List.getElem?_of_mem hx
  have hq1 := cwl_at (A := A) (E := E) hq0
  rw [he] at hq1
  exact va_get hx0 hb hts hin hown h4 h1 q0 hq1 hc k hk (hts _ hlink) (fun _ h => h) hv hdg kk
/-- a field is written -/
theorem r_put (S : CallFix p m c cc nL s args GT own) (hW : wX Z L A E A0 s H locs) {x : α} (hx : x ∈ L) {ci : Nat} {fs : List Value} (he : E x = .inr (ci, fs)) {C : String} {T : u_T} {N : Nat} (hc : vwCl[ci]? = some (C, T, N)) (hin : ∀ w ∈ u_ws C T N, w ∈ GT) (ty0 : Nat → FieldType) (hty : ∀ k, k < N → parseFieldDescriptor (T k).2.2.1 = some (ty0 k)) (hnm : ∀ a, a < N → ∀ b, b < N → a ≠ b → (T a).2.1 ≠ (T b).2.1) (k : Nat) (hk : k < N) (hlink : Cond.fieldLink own index (T k).1 (T k).2.1 (T k).2.2.1 ∈ GT) (hfin : (T k).2.2.2 = false) {ty : FieldType} {v : Value} (hd : parseFieldDescriptor (T k).2.2.1 = some ty) (hn : narrow ty v = v) (hfit : fits ty v = true) (hl : k < fs.length)
    {E' : α → va_E} (h1' : E' x = .inr (ci, fs.set k v)) (h2' : ∀ y, y ≠ x → E' y = E y) (hdg : decode cc pc = .ok (.putfield index, 3))
    (kk : ∀ (H1 : Heap) (locs1 : List Loc), wX Z L A E' A0 s H1 locs1 → W p l e R s m args below meth c H1 locs1 cells slots Q (F0 m (pc + 3) ls rest)) : W p l e R s m args below meth c H locs cells slots Q (F0 m pc ls (v :: .ref (A x) :: rest)) := by
  obtain ⟨h1, h2, h3, h4, h5, h6⟩ := hW
  obtain ⟨hx0, hb, hml, hown, hts⟩ := S
  obtain ⟨q0, hq0⟩ := List.getElem?_of_mem hx
  have hq1 := cwl_at (A := A) (E := E) hq0
  rw [he] at hq1
  refine va_put hx0 hb hts hin ty0 hty hnm hown h4 h1 h2 h3 q0 hq1 hc k hk (hts _ hlink) (fun _ h => h) hfin hd hn hfit hl hdg (fun H1 locs1 k1 k2 k3 => ?_)
  rw [cwl_set h2 hq0 h1' h2'] at k1
  exact kk H1 locs1 ⟨k1, cwl_D h2, k3, h4, h5, h6⟩
/-- a final field is written in its class's constructor -/
theorem r_putF (S : CallFix p m c cc nL s args GT own) (hW : wX Z L A E A0 s H locs) {x : α} (hx : x ∈ L) {ci : Nat} {fs : List Value} (he : E x = .inr (ci, fs)) {C : String} {T : u_T} {N : Nat} (hc : vwCl[ci]? = some (C, T, N)) (hin : ∀ w ∈ u_ws C T N, w ∈ GT) (ty0 : Nat → FieldType) (hty : ∀ k, k < N → parseFieldDescriptor (T k).2.2.1 = some (ty0 k)) (hnm : ∀ a, a < N → ∀ b, b < N → a ≠ b → (T a).2.1 ≠ (T b).2.1) (k : Nat) (hk : k < N) (hlink : Cond.fieldLink own index (T k).1 (T k).2.1 (T k).2.2.1 ∈ GT) (hfin : (T k).2.2.2 = true) (hin2 : meth.name = "<init>") (hdecl : (T k).1 = own) {ty : FieldType} {v : Value} (hd : parseFieldDescriptor (T k).2.2.1 = some ty) (hn : narrow ty v = v) (hfit : fits ty v = true) (hl : k < fs.length)
    {E' : α → va_E} (h1' : E' x = .inr (ci, fs.set k v)) (h2' : ∀ y, y ≠ x → E' y = E y) (hdg : decode cc pc = .ok (.putfield index, 3))
    (kk : ∀ (H1 : Heap) (locs1 : List Loc), wX Z L A E' A0 s H1 locs1 → W p l e R s m args below meth c H1 locs1 cells slots Q (F0 m (pc + 3) ls rest)) : W p l e R s m args below meth c H locs cells slots Q (F0 m pc ls (v :: .ref (A x) :: rest)) := by
  obtain ⟨h1, h2, h3, h4, h5, h6⟩ := hW
  obtain ⟨hx0, hb, hml, hown, hts⟩ := S
  obtain ⟨q0, hq0⟩ := List.getElem?_of_mem hx
  have hq1 := cwl_at (A := A) (E := E) hq0
  rw [he] at hq1
  refine va_putF hx0 hb hts hin ty0 hty hnm hown h4 h1 h2 h3 q0 hq1 hc k hk (hts _ hlink) (fun _ h => h) hfin hin2 hdecl hd hn hfit hl hdg (fun H1 locs1 k1 k2 k3 => ?_)
  rw [cwl_set h2 hq0 h1' h2'] at k1
  exact kk H1 locs1 ⟨k1, cwl_D h2, k3, h4, h5, h6⟩
/-- an int of a row is read -/
theorem r_iald (S : CallFix p m c cc nL s args GT own) (hW : wX Z L A E A0 s H locs) {x : α} (hx : x ∈ L) {n : Nat} {f : Nat → Int32} (he : E x = .inl (zI Z, n, .inl f)) {i : Int32} (hin : vp_in i n) (hdg : decode cc pc = .ok (.iaload, 1))
    (kk : W p l e R s m args below meth c H locs cells slots Q (F0 m (pc + 1) ls (.int (f i.toNatClampNeg) :: rest))) : W p l e R s m args below meth c H locs cells slots Q (F0 m pc ls (.int i :: .ref (A x) :: rest)) := by
  obtain ⟨h1, h2, h3, h4, h5, h6⟩ := hW
  obtain ⟨hx0, hb, hml, hown, hts⟩ := S
  obtain ⟨q0, hq0⟩ := List.getElem?_of_mem hx
  have hq1 := cwl_at (A := A) (E := E) hq0
  rw [he] at hq1
  exact va_iald hx0 hb h4 h1 q0 0 hq1 rfl hin hdg kk
theorem r_iast (S : CallFix p m c cc nL s args GT own) (hW : wX Z L A E A0 s H locs) {x : α} (hx : x ∈ L) {n : Nat} {f : Nat → Int32} (he : E x = .inl (zI Z, n, .inl f)) {i v : Int32} (hin : vp_in i n) {E' : α → va_E} (h1' : E' x = .inl (zI Z, n, .inl (upd f i.toNatClampNeg v))) (h2' : ∀ y, y ≠ x → E' y = E y) (hdg : decode cc pc = .ok (.iastore, 1))
    (kk : ∀ (H1 : Heap) (locs1 : List Loc), wX Z L A E' A0 s H1 locs1 → W p l e R s m args below meth c H1 locs1 cells slots Q (F0 m (pc + 1) ls rest)) : W p l e R s m args below meth c H locs cells slots Q (F0 m pc ls (.int v :: .int i :: .ref (A x) :: rest)) := by
  obtain ⟨h1, h2, h3, h4, h5, h6⟩ := hW
  obtain ⟨hx0, hb, hml, hown, hts⟩ := S
  obtain ⟨q0, hq0⟩ := List.getElem?_of_mem hx
  have hq1 := cwl_at (A := A) (E := E) hq0
  rw [he] at hq1
  refine va_iast hx0 hb h4 h1 h2 h3 q0 0 hq1 rfl hin hdg (fun H1 locs1 k1 k2 k3 => ?_)
  rw [cwl_set h2 hq0 h1' h2'] at k1
  exact kk H1 locs1 ⟨k1, cwl_D h2, k3, h4, h5, h6⟩
theorem r_alen (S : CallFix p m c cc nL s args GT own) (hW : wX Z L A E A0 s H locs) {x : α} (hx : x ∈ L) {a : vp_A} (he : E x = .inl (zI Z, a)) (hdg : decode cc pc = .ok (.arraylength, 1))
    (kk : W p l e R s m args below meth c H locs cells slots Q (F0 m (pc + 1) ls (.int (nI a.1) :: rest))) : W p l e R s m args below meth c H locs cells slots Q (F0 m pc ls (.ref (A x) :: rest)) := by
  obtain ⟨h1, h2, h3, h4, h5, h6⟩ := hW
  obtain ⟨hx0, hb, hml, hown, hts⟩ := S
  obtain ⟨q0, hq0⟩ := List.getElem?_of_mem hx
  have hq1 := cwl_at (A := A) (E := E) hq0
  rw [he] at hq1
  exact va_alen hx0 hb h4 h1 q0 0 hq1 (ty := .int) rfl rfl hdg kk
/-- the receiver of a call -/
theorem r_recv (hW : wX Z L A E A0 s H locs) {x : α} (hx : x ∈ L) {ci : Nat} {fs : List Value} (he : E x = .inr (ci, fs)) {q : vw_C} (hc : vwCl[ci]? = some q) : ∃ cell : Cell, H[A x]? = some cell ∧ cell.vm.isStatics = false ∧ s.vm.findClass q.1 = some cell.cls := by
  obtain ⟨h1, h2, h3, h4, h5, h6⟩ := hW
  obtain ⟨q0, hq0⟩ := List.getElem?_of_mem hx
  have hq1 := cwl_at (A := A) (E := E) hq0
  rw [he] at hq1
  exact va_recv h4 h1 hc hq1
end RW1
