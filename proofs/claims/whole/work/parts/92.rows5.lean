/-! PLAIN LISTS OF CELLS: what constructors make -/
def wW (Z : ZT) (ws : va_W) (A0 : Nat → Prop) (s : State) (H : Heap) (locs : List Loc) : Prop :=
  va_P (zG Z) vwCl ws H ∧ va_D A0 ws ∧ va_S A0 s.heap H locs ∧ va_K (zG Z) vwCl (zT Z) s ∧ (∀ q : Nat, s.heap.size ≤ q → A0 q) ∧ zS Z A0 s s.heap
def pW (Z : ZT) (ws : va_W) (sz : Nat) (U : State) : Prop := U.heap.size = sz ∧ va_P (zG Z) vwCl ws U.heap ∧ va_K (zG Z) vwCl (zT Z) U ∧ va_D (fun _ => True) ws ∧ zS Z (va_A ws sz) U U.heap
def qW (Z : ZT) (ws : va_W) (F : Nat → Prop) (t : State) : Prop := va_P (zG Z) vwCl ws t.heap ∧ va_D F ws
theorem wW_in {Z : ZT} {ws : va_W} {sz : Nat} {s : State} (h : pW Z ws sz s) : wW Z ws (va_A ws sz) s s.heap [] := by
  obtain ⟨h1, h2, h3, h4, h5⟩ := h
  subst h1
  exact ⟨h2, h4.self, va_S.rf, h3, fun q h => Or.inr h, h5⟩
theorem app_r {wr wc : va_W} {k : Nat} {q : Nat × va_E} (h : wc[k]? = some q) : (wr ++ wc)[wr.length + k]? = some q := by
  rw [List.getElem?_append_right (by omega), Nat.add_sub_cancel_left]
  exact h
theorem app_l {wr wc : va_W} {k : Nat} {q : Nat × va_E} (h : wr[k]? = some q) : (wr ++ wc)[k]? = some q := by
  rw [List.getElem?_append_left (List.getElem?_eq_some_iff.mp h).1]
  exact h
theorem wW_fA {Z : ZT} {wr wc : va_W} {A0 : Nat → Prop} {s : State} {H : Heap} {locs : List Loc} (h : wW Z (wr ++ wc) A0 s H locs) : ∀ q, va_A wc H.size q → A0 q := by
  intro q hq
  rcases hq with ⟨k, e, hq⟩ | hq
  · exact h.2.1.2 _ _ (app_r hq)
  · exact h.2.2.2.2.1 q (Nat.le_trans h.2.2.1.1 hq)
theorem wW_r {Z : ZT} {wr wc : va_W} {A0 : Nat → Prop} {s : State} {H : Heap} {locs : List Loc} (h : wW Z (wr ++ wc) A0 s H locs) : wW Z wc A0 s H locs :=
  ⟨fun k q hk => h.1 _ q (app_r hk), ⟨fun i j p q hi hj he => by have := h.2.1.1 _ _ p q (app_r hi) (app_r hj) he; omega, fun k q hk => h.2.1.2 _ q (app_r hk)⟩, h.2.2⟩
theorem wW_l {Z : ZT} {wr wc : va_W} {A0 : Nat → Prop} {s : State} {H : Heap} {locs : List Loc} (h : wW Z (wr ++ wc) A0 s H locs) : wW Z wr A0 s H locs :=
  ⟨fun k q hk => h.1 _ q (app_l hk), ⟨fun i j p q hi hj he => h.2.1.1 _ _ p q (app_l hi) (app_l hj) he, fun k q hk => h.2.1.2 _ q (app_l hk)⟩, h.2.2⟩
theorem wW_pre {Z : ZT} (hZ : zOK Z) {wr wc : va_W} {A0 : Nat → Prop} {s : State} {H : Heap} {locs : List Loc} (h : wW Z (wr ++ wc) A0 s H locs) {U : State} (hU : U.heap = H) (hW : s.WarmedH U.vm) : pW Z wc H.size U := by
  have hf := wW_fA h
  obtain ⟨h1, h2, h3, h4, h5, h6⟩ := wW_r h
  refine ⟨by rw [hU], by rw [hU]; exact h1, va_K.moved hW.alike h4, h2.weaken (fun _ _ _ _ => trivial), ?_⟩
  rw [hU]
  exact hZ.2.2.2.1 _ _ _ _ hf (hZ.2.2.1 _ _ _ _ h3.2.1 (hZ.1 _ _ _ _ hW h6))
theorem pW_blind {Z : ZT} (hZ : zOK Z) {ws : va_W} {sz : Nat} {As : List Value} : FrameBlind (va_Pc As (pW Z ws sz)) := by
  intro a U g mk q
  obtain ⟨q0, q1, qP, qK, qD, qS⟩ := q
  exact ⟨q0, q1, qP, va_K.moved (u := U) (U := U.calling g mk a) (Vm.Alike.refl U.vm) qK, qD, hZ.2.1 _ U (U.calling g mk a) _ rfl qS⟩
/-- behind a callee that had the last cells: the first ones are as they were -/
theorem wW_back {Z : ZT} {wr wc w1 : va_W} {A0 : Nat → Prop} {s t : State} {H H1 : Heap} {locs locs1 : List Loc} (h : wW Z (wr ++ wc) A0 s H locs) (ht : t.heap = H1) (hq : qW Z w1 (va_A wc H.size) t) (hk : ∀ q : Nat, q < H.size → ¬ va_A wc H.size q → H1[q]? = H[q]?) (hS : va_S A0 s.heap H1 locs1) : wW Z (wr ++ w1) A0 s H1 locs1 := by
  have hf := wW_fA h
  have hl := wW_l h
  have apart : ∀ (k : Nat) (q : Nat × va_E), wr[k]? = some q → q.1 < H.size ∧ ¬ va_A wc H.size q.1 := by
    intro k q hq
    have hlt := (hl.1 k q hq).lt
    refine ⟨hlt, fun z => ?_⟩
    rcases z with ⟨k2, e, z⟩ | z
    · have h3 := h.2.1.1 _ _ q (q.1, e) (app_l hq) (app_r z) rfl
      have h4 := (List.getElem?_eq_some_iff.mp hq).1
      omega
    · omega
  refine ⟨va_P.app (fun k q hq => ?_) (by rw [← ht]; exact hq.1), va_D.app hl.2.1 (hq.2.weaken (fun k q _ h => hf q.1 h)) (fun i j x y hx hy hxy => ?_), hS, h.2.2.2⟩
  · obtain ⟨g1, g2⟩ := apart k q hq
    exact (hl.1 k q hq).kept (hk q.1 g1 g2)
  · exact (apart i x hx).2 (by rw [hxy]; exact hq.2.2 j y hy)
abbrev XI (l : Launch) (y : MethodName) (cc : ByteArray) (nL d mc ms : Nat) (As : List Value) (Z : ZT) (ws : va_W) (sz : Nat) (post : va_W → Prop) : Prop :=
  Met l y (hdW y cc nL none) (rmD d mc ms) (va_Pc As (pW Z ws sz)) (va_Qv post (fun u t => qW Z u (va_A ws sz) t) (va_A ws sz)) mc ms (va_A ws sz)
theorem w_met {l : Launch} {Z : ZT} {ws : va_W} {cc : ByteArray} {y : MethodName} {maxL d mc ms sz : Nat} {ret : Option FieldType} {As : List Value} {Qc : Array Value → State → Outcome → State → Prop} (hy : plainName y.cls = true) (hsl : (lg_sl As).length ≤ maxL)
    (body : ∀ (p : Program) (e : Env) (s : State) (m : MethodId) (below : List Frame) (meth : Method) (c : Code) (ls : Array Slot), CallFix p m c cc maxL s As.toArray GT y.cls → meth.sig.returnType = ret → meth.locks = false → meth.name = y.name → s.heap.size = sz → wW Z ws (va_A ws sz) s s.heap [] → lv_has ls maxL (lv_args 0 As) →
      W p l e (rmD d mc ms) s m As.toArray below meth c s.heap [] 0 0 (MQ below Qc As.toArray s mc ms (va_A ws sz)) (F0 m 0 ls [])) :
    Met l y (Cond.code y cc maxL ret :: GT) (rmD d mc ms) (va_Pc As (pW Z ws sz)) Qc mc ms (va_A ws sz) := by
  refine Met.ofW (cc := cc) (maxL := maxL) (ret := ret) hy rfl ?_
  intro p e s m args below meth c s₁ B hml hv
  obtain ⟨rfl, hv⟩ := hv
  have hts := atoms_spec (ws := Cond.code y cc maxL ret :: GT) B.pre
  have hl := lv_entry As (n := maxL) hsl
  rw [lg_entry_eq]
  exact body p e s m below meth c _ ⟨B.exec, B.bytes, hml, findClass_of_methodNamed B.named, fun w h => hts w (List.mem_cons_of_mem _ h)⟩ B.returns B.notSynchronized (name_of_methodNamed B.named B.method).1 hv.1 (wW_in hv) hl
section RW11
variable {p : Program} {l : Launch} {e : Env} {R : Room} {s : State} {m : MethodId} {args : Array Value} {below : List Frame} {meth : Method} {c : Code} {H : Heap} {locs : List Loc} {cells slots : Nat} {Q : State → Prop}
variable {Z : ZT} {ws wr wc : va_W} {A0 : Nat → Prop} {cc : ByteArray} {nL pc index : Nat} {own C host : String} {ls : Array Slot} {rest st : List Value}
theorem zI_of {cA : ClassId} (hK : va_K (zG Z) vwCl (zT Z) s) (hK2 : va_K (zG Z) vwCl (zT Z ++ [(cA, .int)]) s) : cA = zI Z := by
  have h1 : s.vm.findClass ("[" ++ (FieldType.int).toString) = some cA := (hK2.2 4 (cA, .int) rfl).2
  have h2 : s.vm.findClass ("[" ++ (FieldType.int).toString) = some (zI Z) := (hK.2 0 (zI Z, .int) rfl).2
  exact Option.some.inj (h1.symm.trans h2)
theorem zR_of {cA : ClassId} (hK : va_K (zG Z) vwCl (zT Z) s) (hK2 : va_K (zG Z) vwCl (zT Z ++ [(cA, .object "SongRefinery$State")]) s) : cA = zR Z := by
  obtain ⟨_, _, _, _, _, h1⟩ := (hK2.2 4 (cA, .object "SongRefinery$State") rfl).2
  obtain ⟨_, _, _, _, _, h2⟩ := (hK.2 1 (zR Z, .object "SongRefinery$State") rfl).2
  exact Option.some.inj (h1.symm.trans h2)
theorem w_newa (S : CallFix p m c cc nL s args GT own) (hW : wW Z ws A0 s H locs) {N : Nat} (hN : N < 2 ^ 20) (hcells : cells + 1 ≤ R.cells) (hslots : slots + N ≤ R.slots) (hdg : decode cc pc = .ok (.newarray .int, 2))
    (kk : ∀ (q : Nat) (H1 : Heap), wW Z (ws ++ [(q, .inl (zI Z, N, .inl (fun _ => nI 0)))]) A0 s H1 locs → W p l e R s m args below meth c H1 locs (cells + 1) (slots + N) Q (F0 m (pc + 2) ls (.ref q :: rest))) : W p l e R s m args below meth c H locs cells slots Q (F0 m pc ls (.int (nI N) :: rest)) := by
  obtain ⟨h1, h2, h3, h4, h5, h6⟩ := hW
  refine va_newa S.1 S.2.1 (atype := .int) (S.2.2.2.2 _ g_125) (ty := .int) rfl h4 h1 h2 h3 h5 (N' := N) (a0 := (N, .inl (fun _ => nI 0))) (fun cA => by rw [vp_cell_i]; rfl) (nI_pos (by omega)) (nI_clamp (by omega)) (by show N * 4 ≤ _; omega) hcells hslots hdg (fun q cA H1 k1 k2 k3 k4 => ?_)
  have e := zI_of h4 k1
  subst e
  exact kk q H1 ⟨k2, k3, k4, h4, h5, h6⟩
theorem w_newq (S : CallFix p m c cc nL s args GT own) (hW : wW Z ws A0 s H locs) (hlink : Cond.classLink own index "SongRefinery$State" ∈ GT) (hao : va_AO "SongRefinery$State" s) {N : Nat} (hN : N < 2 ^ 20) (hcells : cells + 1 ≤ R.cells) (hslots : slots + N ≤ R.slots) (hdg : decode cc pc = .ok (.anewarray index, 3))
    (kk : ∀ (q : Nat) (H1 : Heap), wW Z (ws ++ [(q, .inl (zR Z, N, .inr (.inr (.inr (.inr (fun _ => none))))))]) A0 s H1 locs → W p l e R s m args below meth c H1 locs (cells + 1) (slots + N) Q (F0 m (pc + 3) ls (.ref q :: rest))) : W p l e R s m args below meth c H locs cells slots Q (F0 m pc ls (.int (nI N) :: rest)) := by
  obtain ⟨h1, h2, h3, h4, h5, h6⟩ := hW
  refine va_newq S.1 S.2.1 S.2.2.2.1 (S.2.2.2.2 _ hlink) hao h4 h1 h2 h3 h5 (N' := N) (nI_pos (by omega)) (nI_clamp (by omega)) (by omega) hcells hslots hdg (fun q cA H1 k1 k2 k3 k4 => ?_)
  have e := zR_of h4 k1
  subst e
  exact kk q H1 ⟨k2, k3, k4, h4, h5, h6⟩
theorem w_new (S : CallFix p m c cc nL s args GT own) (hW : wW Z ws A0 s H locs) {T : u_T} {N ci : Nat} (hin : ∀ w ∈ u_ws C T N, w ∈ GT) (ty : Nat → FieldType) (hty : ∀ k, k < N → parseFieldDescriptor (T k).2.2.1 = some (ty k)) (hcl : Cond.classLink own index C ∈ GT) (hinst : Cond.instantiable C N ∈ GT) (hini : Cond.initialized C ∈ GT) (hc : vwCl[ci]? = some (C, T, N)) {fs : List Value} (hfs : ∀ j, j < N → defaultValue (ty j) = vp_V fs j) (hcells : cells + 1 ≤ R.cells) (hslots : slots + N ≤ R.slots) (hdg : decode cc pc = .ok (.new index, 3))
    (kk : ∀ (q : Nat) (H1 : Heap), wW Z (ws ++ [(q, .inr (ci, fs))]) A0 s H1 locs → W p l e R s m args below meth c H1 locs (cells + 1) (slots + N) Q (F0 m (pc + 3) ls (.ref q :: rest))) : W p l e R s m args below meth c H locs cells slots Q (F0 m pc ls rest) := by
  obtain ⟨h1, h2, h3, h4, h5, h6⟩ := hW
  exact va_new S.1 S.2.1 S.2.2.2.2 hin ty hty S.2.2.2.1 (S.2.2.2.2 _ hcl) (S.2.2.2.2 _ hinst) (S.2.2.2.2 _ hini) h4 h1 h2 h3 h5 hc hfs hcells hslots hdg (fun q H1 k1 k2 k3 => kk q H1 ⟨k1, k2, k3, h4, h5, h6⟩)
theorem w_putF (S : CallFix p m c cc nL s args GT own) (hW : wW Z ws A0 s H locs) (q0 : Nat) {a ci : Nat} {fs : List Value} (he : ws[q0]? = some (a, .inr (ci, fs))) {T : u_T} {N : Nat} (hc : vwCl[ci]? = some (C, T, N)) (hin : ∀ w ∈ u_ws C T N, w ∈ GT) (ty0 : Nat → FieldType) (hty : ∀ k, k < N → parseFieldDescriptor (T k).2.2.1 = some (ty0 k)) (hnm : ∀ a, a < N → ∀ b, b < N → a ≠ b → (T a).2.1 ≠ (T b).2.1) (k : Nat) (hk : k < N) (hlink : Cond.fieldLink own index (T k).1 (T k).2.1 (T k).2.2.1 ∈ GT) (hfin : (T k).2.2.2 = true) (hin2 : meth.name = "<init>") (hdecl : (T k).1 = own) {ty : FieldType} {v : Value} (hd : parseFieldDescriptor (T k).2.2.1 = some ty) (hn : narrow ty v = v) (hfit : fits ty v = true) (hl : k < fs.length) {ws' : va_W} (hws : ws.set q0 (a, .inr (ci, fs.set k v)) = ws') (hdg : decode cc pc = .ok (.putfield index, 3))
    (kk : ∀ (H1 : Heap) (locs1 : List Loc), wW Z ws' A0 s H1 locs1 → W p l e R s m args below meth c H1 locs1 cells slots Q (F0 m (pc + 3) ls rest)) : W p l e R s m args below meth c H locs cells slots Q (F0 m pc ls (v :: .ref a :: rest)) := by
  obtain ⟨h1, h2, h3, h4, h5, h6⟩ := hW
  subst hws
  exact va_putF S.1 S.2.1 S.2.2.2.2 hin ty0 hty hnm S.2.2.2.1 h4 h1 h2 h3 q0 he hc k hk (S.2.2.2.2 _ hlink) (fun _ h => h) hfin hin2 hdecl hd hn hfit hl hdg (fun H1 locs1 k1 k2 k3 => kk H1 locs1 ⟨k1, k2, k3, h4, h5, h6⟩)
theorem w_put (S : CallFix p m c cc nL s args GT own) (hW : wW Z ws A0 s H locs) (q0 : Nat) {a ci : Nat} {fs : List Value} (he : ws[q0]? = some (a, .inr (ci, fs))) {T : u_T} {N : Nat} (hc : vwCl[ci]? = some (C, T, N)) (hin : ∀ w ∈ u_ws C T N, w ∈ GT) (ty0 : Nat → FieldType) (hty : ∀ k, k < N → parseFieldDescriptor (T k).2.2.1 = some (ty0 k)) (hnm : ∀ a, a < N → ∀ b, b < N → a ≠ b → (T a).2.1 ≠ (T b).2.1) (k : Nat) (hk : k < N) (hlink : Cond.fieldLink own index (T k).1 (T k).2.1 (T k).2.2.1 ∈ GT) (hfin : (T k).2.2.2 = false) {ty : FieldType} {v : Value} (hd : parseFieldDescriptor (T k).2.2.1 = some ty) (hn : narrow ty v = v) (hfit : fits ty v = true) (hl : k < fs.length) {ws' : va_W} (hws : ws.set q0 (a, .inr (ci, fs.set k v)) = ws') (hdg : decode cc pc = .ok (.putfield index, 3))
    (kk : ∀ (H1 : Heap) (locs1 : List Loc), wW Z ws' A0 s H1 locs1 → W p l e R s m args below meth c H1 locs1 cells slots Q (F0 m (pc + 3) ls rest)) : W p l e R s m args below meth c H locs cells slots Q (F0 m pc ls (v :: .ref a :: rest)) := by
  obtain ⟨h1, h2, h3, h4, h5, h6⟩ := hW
  subst hws
  exact va_put S.1 S.2.1 S.2.2.2.2 hin ty0 hty hnm S.2.2.2.1 h4 h1 h2 h3 q0 he hc k hk (S.2.2.2.2 _ hlink) (fun _ h => h) hfin hd hn hfit hl hdg (fun H1 locs1 k1 k2 k3 => kk H1 locs1 ⟨k1, k2, k3, h4, h5, h6⟩)
theorem w_ast (S : CallFix p m c cc nL s args GT own) (hW : wW Z ws A0 s H locs) (q0 : Nat) {a n k : Nat} {f : Nat → Int32} (he : ws[q0]? = some (a, .inl (zI Z, n, .inl f))) {x : Int32} (hk : k < n) (hn : n < 2 ^ 31) {ws' : va_W} (hws : ws.set q0 (a, .inl (zI Z, n, .inl (upd f k x))) = ws') (hdg : decode cc pc = .ok (.iastore, 1))
    (kk : ∀ (H1 : Heap) (locs1 : List Loc), wW Z ws' A0 s H1 locs1 → W p l e R s m args below meth c H1 locs1 cells slots Q (F0 m (pc + 1) ls rest)) : W p l e R s m args below meth c H locs cells slots Q (F0 m pc ls (.int x :: .int (nI k) :: .ref a :: rest)) := by
  obtain ⟨h1, h2, h3, h4, h5, h6⟩ := hW
  subst hws
  refine va_iast S.1 S.2.1 h4 h1 h2 h3 q0 0 he rfl (vp_in_nI hk hn) hdg (fun H1 locs1 k1 k2 k3 => ?_)
  rw [nI_clamp (by omega)] at k1 k2
  exact kk H1 locs1 ⟨k1, k2, k3, h4, h5, h6⟩
theorem w_obj (S : CallFix p m c cc nL s args GT own) (hl : ls.size = nL) (hlink : Cond.methodLink own index Lib.objectInit ∈ GT) {a : Nat} (hdg : decode cc pc = .ok (.invokespecial index, 3)) (hf : 1 ≤ R.frames) (hlo : (rest.map fun v => v.category).sum + 12 ≤ R.locals)
    (kk : W p l e R s m args below meth c H locs cells slots Q (F0 m (pc + 3) ls rest)) : W p l e R s m args below meth c H locs cells slots Q (F0 m pc ls (.ref a :: rest)) :=
  W.objInit S.1 S.2.1 S.2.2.2.1 (S.2.2.2.2 _ hlink) (S.2.2.2.2 _ g_99) (S.2.2.2.2 _ g_100) (g := F0 m pc ls (.ref a :: rest)) rfl (hl.trans S.2.2.1.symm) rfl hdg hf (by show 2 * 0 + _ + 12 ≤ _; omega) kk
variable {y : MethodName} {bytes : ByteArray} {maxL d mc ms n : Nat} {ret : Option FieldType} {Qc : Array Value → State → Outcome → State → Prop} {free : Addr → Prop} {b : Addr}
theorem w_runIN (hZ : zOK Z) (S : CallFix p m c cc nL s args GT own) (hW : wW Z (wr ++ wc) A0 s H locs) {As : List Value} (hM : Met l y (Cond.code y bytes maxL none :: GT) (rmD d mc ms) (va_Pc (.ref b :: As) (pW Z wc H.size)) Qc mc ms free) (lk : lkIN own host index y bytes maxL n)
    (hl : ls.size = nL) (hn : As.length = n) (hst : st = As.reverse ++ .ref b :: rest) (hr : (rest.map fun v => v.category).sum ≤ 8) (hR : okR R d maxL) (hf : cells + mc ≤ R.cells ∧ slots + ms ≤ R.slots) (hdg : decode cc pc = .ok (.invokespecial index, 3)) :
    va_Run p l e R s m args below meth c H locs cells slots mc ms (F0 m pc ls st) rest (Qc (Value.ref b :: As).toArray) free := by
  obtain ⟨k1, k2, k4, k5, k6, k7⟩ := lk
  exact va_runIN S hM ⟨callN_GT hZ hW.2.2.2.2.2 S.2.2.2.2 k5 k4 k1 k7 hR, k6, S.2.2.2.2 _ k2⟩ ⟨pW_blind hZ, fun U hU hw => ⟨rfl, wW_pre hZ hW hU hw⟩⟩ rfl hn hl hst (lv_room hr) hdg hf
theorem w_callv {post : va_W → Prop} {a : Array Value} (hr : va_Run p l e R s m args below meth c H locs cells slots mc ms (F0 m pc ls st) rest (va_Qv post (fun u t => qW Z u (va_A wc H.size) t) (va_A wc H.size) a) (va_A wc H.size)) (hW : wW Z (wr ++ wc) A0 s H locs)
    (kk : ∀ (u : va_W) (H1 : Heap) (locs1 : List Loc), post u → wW Z (wr ++ u) A0 s H1 locs1 → W p l e R s m args below meth c H1 locs1 (cells + mc) (slots + ms) Q (F0 m (pc + 3) ls rest)) : W p l e R s m args below meth c H locs cells slots Q (F0 m pc ls st) :=
  va_callv hr hW.2.2.1 (fun q _ h => wW_fA hW q h) (wW_fA hW) (fun u t H1 locs1 ht _ hp hB _ hk hS => kk u H1 locs1 hp (wW_back hW ht hB hk hS))
theorem w_vret (S : CallFix p m c cc nL s args GT own) (hr : meth.sig.returnType = none) (hlk : meth.locks = false) {post : va_W → Prop} (hW : wW Z ws A0 s H locs) (hp : post ws) (hdg : decode cc pc = .ok (.return_, 1)) :
    W p l e R s m args below meth c H locs cells slots (MQ below (va_Qv post (fun u t => qW Z u A0 t) A0) args s cells slots A0) (F0 m pc ls []) :=
  W.vret S.1 S.2.1 hr (fun t ht _ => ⟨⟨ws, rfl, hp, ⟨by rw [ht]; exact hW.1, hW.2.1⟩⟩, hW.2.2.1.F ht⟩) hW.2.2.1.2.2 hdg hlk
end RW11
/-- no state of the ring lives; every number is nought -/
def g0 : Nat → Bool := fun _ => false
def μ0 : CM := fun _ _ _ => nI 0
/-- a fresh state's cells -/
def sE (Z : ZT) (a : Nat → Nat) : Nat → va_E := cEo Z (fun x => a x.2) g0 μ0 0
def SB (Z : ZT) (a : Nat → Nat) : va_W := cwl (List.range 14) a (sE Z a)
/-- a world out of a plain list: each of its cells stands in the list, at a place of its own -/
theorem wX_of {α : Type} {Z : ZT} {ws : va_W} {L : List α} {A : α → Nat} {E : α → va_E} {A0 : Nat → Prop} {s : State} {H : Heap} {locs : List Loc} (h : wW Z ws A0 s H locs) (ix : α → Nat) (hx : ∀ x ∈ L, ws[ix x]? = some (A x, E x)) (hi : ∀ x ∈ L, ∀ y ∈ L, ix x = ix y → x = y) (hn : L.Nodup) : wX Z L A E A0 s H locs := by
  obtain ⟨h1, h2, h3⟩ := h
  refine ⟨fun k q hk => ?_, ⟨fun i j p q hp hq he => ?_, fun k q hk => ?_⟩, h3⟩
  · obtain ⟨x, hx1, rfl⟩ := cwl_of hk
    exact h1 _ _ (hx x (List.mem_of_getElem? hx1))
  · obtain ⟨x, hx1, rfl⟩ := cwl_of hp
    obtain ⟨y, hy1, rfl⟩ := cwl_of hq
    have e1 := h2.1 _ _ _ _ (hx x (List.mem_of_getElem? hx1)) (hx y (List.mem_of_getElem? hy1)) he
    have e2 := hi x (List.mem_of_getElem? hx1) y (List.mem_of_getElem? hy1) e1
    subst e2
    exact (List.getElem?_inj (List.getElem?_eq_some_iff.mp hx1).1 hn).mp (hx1.trans hy1.symm)
  · obtain ⟨x, hx1, rfl⟩ := cwl_of hk
    exact h2.2 _ _ (hx x (List.mem_of_getElem? hx1))
