/-! THE LAW'S WRAPPERS: the class's world, and one cell more for the answer -/
def oJ (Z : ZT) (f : Nat → Int64) : va_E := .inl (zJ Z, 1, .inr (.inl f))
def oD (Z : ZT) (f : Nat → UInt64) : va_E := .inl (zD Z, 1, .inr (.inr (.inr (.inl f))))
def cW (Z : ZT) (u : GM) : va_W := cwl (ids u.1) u.2.1 (cE Z u.2.1 u.1 u.2.2)
def uW (Z : ZT) (ao : Nat) (e : va_E) (u : GM) : va_W := [(ao, e)] ++ cW Z u
def NCL : List (String × String) := [("java/lang/IllegalStateException", "java/lang/IllegalArgumentException"), ("java/lang/IllegalArgumentException", "java/lang/IndexOutOfBoundsException"), ("java/lang/IllegalStateException", "java/lang/IndexOutOfBoundsException"), ("java/util/NoSuchElementException", "java/lang/IndexOutOfBoundsException"), ("java/util/NoSuchElementException", "java/lang/IllegalArgumentException"), ("java/lang/ArithmeticException", "java/lang/IndexOutOfBoundsException")]
/-- what the statics give: which exceptions are no others -/
def XNC (Z : ZT) : Prop := ∀ (A : Nat → Prop) (U : State) (H : Heap), zS Z A U H → ∀ q ∈ NCL, va_Nc q.1 q.2 U
theorem y_ofWH {l : Launch} {y : MethodName} {ws ws' : List Cond} {rm : Room} {Pc : Array Value → State → Prop} {Qc : Array Value → State → Outcome → State → Prop} {mc ms : Nat} {free : Addr → Prop} {cc : ByteArray} {maxL : Nat} {ret : Option FieldType} {hh : List (Nat × Nat × Nat × Nat)}
    (hy : plainName y.cls = true) (hw : ws = Cond.codeWith y cc maxL ret hh :: ws')
    (body : ∀ p e s m args below meth c s₁, BodyLoose p l y (headSpec ws rm) cc maxL ret e s m args below meth c s₁ → c.maxLocals = maxL → Pc args s →
      W p l e (headSpec ws rm).room s m args below meth c s.heap [] 0 0 (MQ below Qc args s mc ms free) (entryFrame m args maxL)) : Met l y ws rm Pc Qc mc ms free := by
  refine MetFree.of_bodyS (code := cc) (maxLocals := maxL) (ret := ret) hy ?_ ?_
  · intro args s m h hn
    obtain ⟨m9, meth, c, hn9, h1, h2, h3, h4, -, h5, h6, -⟩ := Cond.codeWith_spec (atoms_spec (ws := ws) h _ (by rw [hw]; exact List.mem_cons_self))
    cases hn.symm.trans hn9
    exact ⟨meth, c, h1, h2, h3, h4, h5, h6⟩
  · intro p e s m args below meth c s₁ B hml hP _
    have hh0 : s₁.heap = s.heap := by rw [B.state]; rfl
    obtain ⟨t, a1, o, b1, b2, b3⟩ := body p e s m args below meth c s₁ B hml hP s₁ hh0 (Stand.of_body B)
    exact ⟨t, o, a1, b1, b2, ⟨b3.1, b3.2⟩⟩
theorem u_met {l : Launch} {Z : ZT} {ws : va_W} {cc : ByteArray} {y : MethodName} {maxL d mc ms sz : Nat} {ret : Option FieldType} {hh : List (Nat × Nat × Nat × Nat)} {As : List Value} {Qc : Array Value → State → Outcome → State → Prop} (hy : plainName y.cls = true) (hsl : (lg_sl As).length ≤ maxL)
    (body : ∀ (p : Program) (e : Env) (s : State) (m : MethodId) (below : List Frame) (meth : Method) (c : Code) (ls : Array Slot), CallFix p m c cc maxL s As.toArray GT y.cls → meth.sig.returnType = ret → meth.locks = false → c.exceptionTable.toList = tableOf hh → s.heap.size = sz → wW Z ws (va_A ws sz) s s.heap [] → lv_has ls maxL (lv_args 0 As) →
      W p l e (rmD d mc ms) s m As.toArray below meth c s.heap [] 0 0 (MQ below Qc As.toArray s mc ms (va_A ws sz)) (F0 m 0 ls [])) :
    Met l y (Cond.codeWith y cc maxL ret hh :: GT) (rmD d mc ms) (va_Pc As (pW Z ws sz)) Qc mc ms (va_A ws sz) := by
  refine y_ofWH (cc := cc) (maxL := maxL) (ret := ret) hy rfl ?_
  intro p e s m args below meth c s₁ B hml hv
  obtain ⟨rfl, hv⟩ := hv
  have hts := atoms_spec (ws := Cond.codeWith y cc maxL ret hh :: GT) B.pre
  have hl := lv_entry As (n := maxL) hsl
  rw [lg_entry_eq]
  exact body p e s m below meth c _ ⟨B.exec, B.bytes, hml, findClass_of_methodNamed B.named, fun w h => hts w (List.mem_cons_of_mem _ h)⟩ B.returns B.notSynchronized (vx_table (x := y) B (hts _ List.mem_cons_self)) hv.1 (wW_in hv) hl
abbrev XW (l : Launch) (y : MethodName) (cc : ByteArray) (nL : Nat) (hh : List (Nat × Nat × Nat × Nat)) (As : List Value) (Z : ZT) (ao : Nat) {O : Type} (oc : O → va_E) (f : O) (v : GM) (sz : Nat) (post : Int32 → GM × O → Prop) : Prop :=
  Met l y (Cond.codeWith y cc nL (some .int) hh :: GT) (rmD 8 15 1376) (va_Pc As (pW Z (uW Z ao (oc f) v) sz)) (va_Qi post (fun (u : GM × O) t => qW Z (uW Z ao (oc u.2) u.1) (va_A (uW Z ao (oc f) v) sz) t) (va_A (uW Z ao (oc f) v) sz)) 15 1376 (va_A (uW Z ao (oc f) v) sz)
section RW20
variable {p : Program} {l : Launch} {e : Env} {R : Room} {s : State} {m : MethodId} {args : Array Value} {below : List Frame} {meth : Method} {c : Code} {H : Heap} {locs : List Loc} {cells slots : Nat} {Q : State → Prop}
variable {Z : ZT} {A0 : Nat → Prop} {cc : ByteArray} {nL pc index : Nat} {own C : String} {ls : Array Slot} {rest st : List Value} {wr : va_W} {v : GM}
variable {y : MethodName} {bytes : ByteArray} {maxL d mc ms n : Nat} {ret : Option FieldType} {b : Addr} {px : Nat → GM → Prop}
theorem u_X (hW : wW Z (wr ++ cW Z v) A0 s H locs) : wX Z (ids v.1) v.2.1 (cE Z v.2.1 v.1 v.2.2) A0 s H locs := wW_r hW
theorem u_calli (hZ : zOK Z) (S : CallFix p m c cc nL s args GT own) (hW : wW Z (wr ++ cW Z v) A0 s H locs) {As : List Value} {post : Int32 → GM → Prop} (hM : XVi l y bytes maxL ret d mc ms (.ref b :: As) Z (ids v.1) v.2.1 (cE Z v.2.1 v.1 v.2.2) H.size post px) (lk : lkV own C index y bytes maxL ret n)
    (hrecv : ∃ cell : Cell, H[b]? = some cell ∧ cell.vm.isStatics = false ∧ s.vm.findClass C = some cell.cls) (hl : ls.size = nL) (hn : As.length = n) (hst : st = As.reverse ++ .ref b :: rest) (hr : (rest.map fun v => v.category).sum ≤ 8) (hR : okR R d maxL) (hf : cells + mc ≤ R.cells ∧ slots + ms ≤ R.slots) (hdg : decode cc pc = .ok (.invokevirtual index, 3))
    (kx : ∀ (k : Nat) (u : GM) (H1 : Heap) (locs1 : List Loc) (q9 : Addr) (ce : Cell), px k u → wW Z (wr ++ cW Z u) A0 s H1 locs1 → H1[q9]? = some ce → ce.vm = .none → s.vm.findClass (exC k) = some ce.cls → vx_W p l e R s m args below meth c H1 locs1 (cells + mc) (slots + ms) Q (F0 m pc ls rest) q9)
    (kk : ∀ (r : Int32) (u : GM) (H1 : Heap) (locs1 : List Loc), post r u → wW Z (wr ++ cW Z u) A0 s H1 locs1 → W p l e R s m args below meth c H1 locs1 (cells + mc) (slots + ms) Q (F0 m (pc + 3) ls (.int r :: rest))) : W p l e R s m args below meth c H locs cells slots Q (F0 m pc ls st) := by
  obtain ⟨k1, k2, k3, k4, k5, k6⟩ := lk
  have hX := u_X hW
  refine vx_calli (vx_runV S hM ⟨callB_GT S.2.2.2.2 k5 k4 k1 k6 hR, S.2.2.2.2 _ k2, S.2.2.2.2 _ k3⟩ ⟨pB_blind hZ, hrecv, fun U hU hw => ⟨rfl, wX_pre hZ hX hU hw⟩⟩ rfl hn hl hst (lv_room hr) hdg hf) hW.2.2.1 (fun q _ h => wW_fA hW q h) (wW_fA hW) (fun q _ h => wW_fA hW q h) (fun E' ce q9 w t H1 locs1 ht _ hp hB _ hk hS h7 h8 h9 => ?_) (fun r u t H1 locs1 ht _ hp hB _ hk hS => kk r u H1 locs1 hp (wW_back hW ht hB hk hS))
  obtain ⟨hE, hB⟩ := hB
  exact kx w.1 w.2 H1 locs1 q9 ce hp (wW_back hW ht hB hk hS) h7 h8 (by rw [← hE]; exact h9)
theorem u_calll (hZ : zOK Z) (S : CallFix p m c cc nL s args GT own) (hW : wW Z (wr ++ cW Z v) A0 s H locs) {As : List Value} {post : Int64 → GM → Prop} (hM : XVl l y bytes maxL ret d mc ms (.ref b :: As) Z (ids v.1) v.2.1 (cE Z v.2.1 v.1 v.2.2) H.size post px) (lk : lkV own C index y bytes maxL ret n)
    (hrecv : ∃ cell : Cell, H[b]? = some cell ∧ cell.vm.isStatics = false ∧ s.vm.findClass C = some cell.cls) (hl : ls.size = nL) (hn : As.length = n) (hst : st = As.reverse ++ .ref b :: rest) (hr : (rest.map fun v => v.category).sum ≤ 8) (hR : okR R d maxL) (hf : cells + mc ≤ R.cells ∧ slots + ms ≤ R.slots) (hdg : decode cc pc = .ok (.invokevirtual index, 3))
    (kx : ∀ (k : Nat) (u : GM) (H1 : Heap) (locs1 : List Loc) (q9 : Addr) (ce : Cell), px k u → wW Z (wr ++ cW Z u) A0 s H1 locs1 → H1[q9]? = some ce → ce.vm = .none → s.vm.findClass (exC k) = some ce.cls → vx_W p l e R s m args below meth c H1 locs1 (cells + mc) (slots + ms) Q (F0 m pc ls rest) q9)
    (kk : ∀ (r : Int64) (u : GM) (H1 : Heap) (locs1 : List Loc), post r u → wW Z (wr ++ cW Z u) A0 s H1 locs1 → W p l e R s m args below meth c H1 locs1 (cells + mc) (slots + ms) Q (F0 m (pc + 3) ls (.long r :: rest))) : W p l e R s m args below meth c H locs cells slots Q (F0 m pc ls st) := by
  obtain ⟨k1, k2, k3, k4, k5, k6⟩ := lk
  have hX := u_X hW
  refine vx_calll (vx_runV S hM ⟨callB_GT S.2.2.2.2 k5 k4 k1 k6 hR, S.2.2.2.2 _ k2, S.2.2.2.2 _ k3⟩ ⟨pB_blind hZ, hrecv, fun U hU hw => ⟨rfl, wX_pre hZ hX hU hw⟩⟩ rfl hn hl hst (lv_room hr) hdg hf) hW.2.2.1 (fun q _ h => wW_fA hW q h) (wW_fA hW) (fun q _ h => wW_fA hW q h) (fun E' ce q9 w t H1 locs1 ht _ hp hB _ hk hS h7 h8 h9 => ?_) (fun r u t H1 locs1 ht _ hp hB _ hk hS => kk r u H1 locs1 hp (wW_back hW ht hB hk hS))
  obtain ⟨hE, hB⟩ := hB
  exact kx w.1 w.2 H1 locs1 q9 ce hp (wW_back hW ht hB hk hS) h7 h8 (by rw [← hE]; exact h9)
theorem u_calld (hZ : zOK Z) (S : CallFix p m c cc nL s args GT own) (hW : wW Z (wr ++ cW Z v) A0 s H locs) {As : List Value} {post : UInt64 → GM → Prop} (hM : XVd l y bytes maxL ret d mc ms (.ref b :: As) Z (ids v.1) v.2.1 (cE Z v.2.1 v.1 v.2.2) H.size post px) (lk : lkV own C index y bytes maxL ret n)
    (hrecv : ∃ cell : Cell, H[b]? = some cell ∧ cell.vm.isStatics = false ∧ s.vm.findClass C = some cell.cls) (hl : ls.size = nL) (hn : As.length = n) (hst : st = As.reverse ++ .ref b :: rest) (hr : (rest.map fun v => v.category).sum ≤ 8) (hR : okR R d maxL) (hf : cells + mc ≤ R.cells ∧ slots + ms ≤ R.slots) (hdg : decode cc pc = .ok (.invokevirtual index, 3))
    (kx : ∀ (k : Nat) (u : GM) (H1 : Heap) (locs1 : List Loc) (q9 : Addr) (ce : Cell), px k u → wW Z (wr ++ cW Z u) A0 s H1 locs1 → H1[q9]? = some ce → ce.vm = .none → s.vm.findClass (exC k) = some ce.cls → vx_W p l e R s m args below meth c H1 locs1 (cells + mc) (slots + ms) Q (F0 m pc ls rest) q9)
    (kk : ∀ (r : UInt64) (u : GM) (H1 : Heap) (locs1 : List Loc), post r u → wW Z (wr ++ cW Z u) A0 s H1 locs1 → W p l e R s m args below meth c H1 locs1 (cells + mc) (slots + ms) Q (F0 m (pc + 3) ls (.double r :: rest))) : W p l e R s m args below meth c H locs cells slots Q (F0 m pc ls st) := by
  obtain ⟨k1, k2, k3, k4, k5, k6⟩ := lk
  have hX := u_X hW
  refine vx_calld (vx_runV S hM ⟨callB_GT S.2.2.2.2 k5 k4 k1 k6 hR, S.2.2.2.2 _ k2, S.2.2.2.2 _ k3⟩ ⟨pB_blind hZ, hrecv, fun U hU hw => ⟨rfl, wX_pre hZ hX hU hw⟩⟩ rfl hn hl hst (lv_room hr) hdg hf) hW.2.2.1 (fun q _ h => wW_fA hW q h) (wW_fA hW) (fun q _ h => wW_fA hW q h) (fun E' ce q9 w t H1 locs1 ht _ hp hB _ hk hS h7 h8 h9 => ?_) (fun r u t H1 locs1 ht _ hp hB _ hk hS => kk r u H1 locs1 hp (wW_back hW ht hB hk hS))
  obtain ⟨hE, hB⟩ := hB
  exact kx w.1 w.2 H1 locs1 q9 ce hp (wW_back hW ht hB hk hS) h7 h8 (by rw [← hE]; exact h9)
theorem u_callf (hZ : zOK Z) (S : CallFix p m c cc nL s args GT own) (hW : wW Z (wr ++ cW Z v) A0 s H locs) {As : List Value} {post : UInt32 → GM → Prop} (hM : XVf l y bytes maxL ret d mc ms (.ref b :: As) Z (ids v.1) v.2.1 (cE Z v.2.1 v.1 v.2.2) H.size post px) (lk : lkV own C index y bytes maxL ret n)
    (hrecv : ∃ cell : Cell, H[b]? = some cell ∧ cell.vm.isStatics = false ∧ s.vm.findClass C = some cell.cls) (hl : ls.size = nL) (hn : As.length = n) (hst : st = As.reverse ++ .ref b :: rest) (hr : (rest.map fun v => v.category).sum ≤ 8) (hR : okR R d maxL) (hf : cells + mc ≤ R.cells ∧ slots + ms ≤ R.slots) (hdg : decode cc pc = .ok (.invokevirtual index, 3))
    (kx : ∀ (k : Nat) (u : GM) (H1 : Heap) (locs1 : List Loc) (q9 : Addr) (ce : Cell), px k u → wW Z (wr ++ cW Z u) A0 s H1 locs1 → H1[q9]? = some ce → ce.vm = .none → s.vm.findClass (exC k) = some ce.cls → vx_W p l e R s m args below meth c H1 locs1 (cells + mc) (slots + ms) Q (F0 m pc ls rest) q9)
    (kk : ∀ (r : UInt32) (u : GM) (H1 : Heap) (locs1 : List Loc), post r u → wW Z (wr ++ cW Z u) A0 s H1 locs1 → W p l e R s m args below meth c H1 locs1 (cells + mc) (slots + ms) Q (F0 m (pc + 3) ls (.float r :: rest))) : W p l e R s m args below meth c H locs cells slots Q (F0 m pc ls st) := by
  obtain ⟨k1, k2, k3, k4, k5, k6⟩ := lk
  have hX := u_X hW
  refine vx_callf (vx_runV S hM ⟨callB_GT S.2.2.2.2 k5 k4 k1 k6 hR, S.2.2.2.2 _ k2, S.2.2.2.2 _ k3⟩ ⟨pB_blind hZ, hrecv, fun U hU hw => ⟨rfl, wX_pre hZ hX hU hw⟩⟩ rfl hn hl hst (lv_room hr) hdg hf) hW.2.2.1 (fun q _ h => wW_fA hW q h) (wW_fA hW) (fun q _ h => wW_fA hW q h) (fun E' ce q9 w t H1 locs1 ht _ hp hB _ hk hS h7 h8 h9 => ?_) (fun r u t H1 locs1 ht _ hp hB _ hk hS => kk r u H1 locs1 hp (wW_back hW ht hB hk hS))
  obtain ⟨hE, hB⟩ := hB
  exact kx w.1 w.2 H1 locs1 q9 ce hp (wW_back hW ht hB hk hS) h7 h8 (by rw [← hE]; exact h9)
theorem u_lst (S : CallFix p m c cc nL s args GT own) {ao : Nat} {f : Nat → Int64} {wc : va_W} (hW : wW Z ([(ao, oJ Z f)] ++ wc) A0 s H locs) {x : Int64} (hdg : decode cc pc = .ok (.lastore, 1))
    (kk : ∀ (H1 : Heap) (locs1 : List Loc) (f' : Nat → Int64), f' 0 = x → wW Z ([(ao, oJ Z f')] ++ wc) A0 s H1 locs1 → W p l e R s m args below meth c H1 locs1 cells slots Q (F0 m (pc + 1) ls rest)) : W p l e R s m args below meth c H locs cells slots Q (F0 m pc ls (.long x :: .int (nI 0) :: .ref ao :: rest)) := by
  obtain ⟨h1, h2, h3, h4, h5, h6⟩ := hW
  refine va_last S.1 S.2.1 h4 h1 h2 h3 0 2 rfl rfl (vp_in_nI (by decide) (by decide)) hdg (fun H1 locs1 k1 k2 k3 => ?_)
  exact kk H1 locs1 (vp_updL f (nI 0).toNatClampNeg x) (by simp [vp_updL, nI_clamp]) ⟨k1, k2, k3, h4, h5, h6⟩
theorem u_dst (S : CallFix p m c cc nL s args GT own) {ao : Nat} {f : Nat → UInt64} {wc : va_W} (hW : wW Z ([(ao, oD Z f)] ++ wc) A0 s H locs) {x : UInt64} (hdg : decode cc pc = .ok (.dastore, 1))
    (kk : ∀ (H1 : Heap) (locs1 : List Loc) (f' : Nat → UInt64), f' 0 = x → wW Z ([(ao, oD Z f')] ++ wc) A0 s H1 locs1 → W p l e R s m args below meth c H1 locs1 cells slots Q (F0 m (pc + 1) ls rest)) : W p l e R s m args below meth c H locs cells slots Q (F0 m pc ls (.double x :: .int (nI 0) :: .ref ao :: rest)) := by
  obtain ⟨h1, h2, h3, h4, h5, h6⟩ := hW
  refine va_dast S.1 S.2.1 h4 h1 h2 h3 0 3 rfl rfl (vp_in_nI (by decide) (by decide)) hdg (fun H1 locs1 k1 k2 k3 => ?_)
  exact kk H1 locs1 (vf_upd f (nI 0).toNatClampNeg x) (by simp [vf_upd, nI_clamp]) ⟨k1, k2, k3, h4, h5, h6⟩
theorem u_ret (S : CallFix p m c cc nL s args GT own) (hr : meth.sig.returnType = some .int) (hlk : meth.locks = false) {M : Type} {F : M → va_W} (u : M) {post : Int32 → M → Prop} (hW : wW Z (F u) A0 s H locs) (hc : cells ≤ mc) (hs : slots ≤ ms) {x : Int32} (hp : post x u) (hdg : decode cc pc = .ok (.ireturn, 1)) :
    W p l e R s m args below meth c H locs cells slots (MQ below (va_Qi post (fun (u : M) t => qW Z (F u) A0 t) A0) args s mc ms A0) (F0 m pc ls [.int x]) :=
  W.widen hc hs (W.iret S.1 S.2.1 hr (fun t ht _ => ⟨⟨x, u, rfl, hp, ⟨by rw [ht]; exact hW.1, hW.2.1⟩⟩, hW.2.2.1.F ht⟩) hW.2.2.1.2.2 hdg hlk)
end RW20
