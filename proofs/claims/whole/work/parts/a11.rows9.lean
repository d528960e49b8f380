/-! public methods: contracts, starts, ends, calls of throwFault -/
def qX (Z : ZT) (F : Nat → Prop) : String → (Nat × GM) → State → Prop := fun E' q t => E' = exC q.1 ∧ qG Z F q.2 t
abbrev XCx (px : Nat → GM → Prop) (Z : ZT) (F : Nat → Prop) : String → State → State → Prop := vx_X (fun q : Nat × GM => px q.1 q.2) (qX Z F) F
abbrev XVi (l : Launch) (y : MethodName) (cc : ByteArray) (nL : Nat) (ret : Option FieldType) (d mc ms : Nat) (As : List Value) (Z : ZT) {α : Type} (L : List α) (A : α → Nat) (E : α → va_E) (sz : Nat) (post : Int32 → GM → Prop) (px : Nat → GM → Prop) : Prop :=
  vx_Met l y (hdW y cc nL ret) (rmD d mc ms) (va_Pc As (pB Z L A E sz)) (va_Qi post (fun (u : GM) t => qG Z (fA L A E sz) u t) (fA L A E sz)) (XCx px Z (fA L A E sz)) mc ms (fA L A E sz)
abbrev XVl (l : Launch) (y : MethodName) (cc : ByteArray) (nL : Nat) (ret : Option FieldType) (d mc ms : Nat) (As : List Value) (Z : ZT) {α : Type} (L : List α) (A : α → Nat) (E : α → va_E) (sz : Nat) (post : Int64 → GM → Prop) (px : Nat → GM → Prop) : Prop :=
  vx_Met l y (hdW y cc nL ret) (rmD d mc ms) (va_Pc As (pB Z L A E sz)) (va_Ql post (fun (u : GM) t => qG Z (fA L A E sz) u t) (fA L A E sz)) (XCx px Z (fA L A E sz)) mc ms (fA L A E sz)
abbrev XVd (l : Launch) (y : MethodName) (cc : ByteArray) (nL : Nat) (ret : Option FieldType) (d mc ms : Nat) (As : List Value) (Z : ZT) {α : Type} (L : List α) (A : α → Nat) (E : α → va_E) (sz : Nat) (post : UInt64 → GM → Prop) (px : Nat → GM → Prop) : Prop :=
  vx_Met l y (hdW y cc nL ret) (rmD d mc ms) (va_Pc As (pB Z L A E sz)) (va_Qd post (fun (u : GM) t => qG Z (fA L A E sz) u t) (fA L A E sz)) (XCx px Z (fA L A E sz)) mc ms (fA L A E sz)
abbrev XVf (l : Launch) (y : MethodName) (cc : ByteArray) (nL : Nat) (ret : Option FieldType) (d mc ms : Nat) (As : List Value) (Z : ZT) {α : Type} (L : List α) (A : α → Nat) (E : α → va_E) (sz : Nat) (post : UInt32 → GM → Prop) (px : Nat → GM → Prop) : Prop :=
  vx_Met l y (hdW y cc nL ret) (rmD d mc ms) (va_Pc As (pB Z L A E sz)) (va_Qf post (fun (u : GM) t => qG Z (fA L A E sz) u t) (fA L A E sz)) (XCx px Z (fA L A E sz)) mc ms (fA L A E sz)
/-- throwFault with a fault: it throws it -/
abbrev XT (l : Launch) (n : Nat) (Z : ZT) {α : Type} (L : List α) (A : α → Nat) (E : α → va_E) (sz : Nat) : Prop :=
  vx_Met l yX9_throwFault (hdW yX9_throwFault cX9_throwFault 1 none) (rmD 6 1 6) (va_Pc [.int (nI n)] (pB Z L A E sz)) (va_Qv (fun (_ : Unit) => False) (fun _ t => qB Z L A E (fA L A E sz) t) (fA L A E sz)) (vx_X (fun (_ : Unit) => True) (fun E' _ t => E' = exC n ∧ qB Z L A E (fA L A E sz) t) (fA L A E sz)) 1 6 (fA L A E sz)
theorem x_met {l : Launch} {α : Type} {Z : ZT} {L : List α} {A : α → Nat} {E : α → va_E} {cc : ByteArray} {y : MethodName} {maxL d mc ms sz : Nat} {ret : Option FieldType} {As : List Value} {Qc : Array Value → State → Outcome → State → Prop} {XC : String → State → State → Prop} (hy : plainName y.cls = true) (hsl : (lg_sl As).length ≤ maxL)
    (body : ∀ (p : Program) (e : Env) (s : State) (m : MethodId) (below : List Frame) (meth : Method) (c : Code) (ls : Array Slot), CallFix p m c cc maxL s As.toArray GT y.cls → meth.sig.returnType = ret → meth.locks = false → (∀ x ∈ c.exceptionTable.toList, False) → s.heap.size = sz → wX Z L A E (fA L A E sz) s s.heap [] → lv_has ls maxL (lv_args 0 As) →
      W p l e (rmD d mc ms) s m As.toArray below meth c s.heap [] 0 0 (vx_MQ below Qc XC As.toArray s mc ms (fA L A E sz)) (F0 m 0 ls [])) :
    vx_Met l y (Cond.code y cc maxL ret :: GT) (rmD d mc ms) (va_Pc As (pB Z L A E sz)) Qc XC mc ms (fA L A E sz) := by
  refine vx_ofW (cc := cc) (maxL := maxL) (ret := ret) hy rfl ?_
  intro p e s m args below meth c s₁ B hml hnt hv
  obtain ⟨rfl, hv⟩ := hv
  have hts := atoms_spec (ws := Cond.code y cc maxL ret :: GT) B.pre
  have hl := lv_entry As (n := maxL) hsl
  rw [lg_entry_eq]
  exact body p e s m below meth c _ ⟨B.exec, B.bytes, hml, findClass_of_methodNamed B.named, fun w h => hts w (List.mem_cons_of_mem _ h)⟩ B.returns B.notSynchronized hnt hv.1 (wX_in hv) hl
section RW14
variable {p : Program} {l : Launch} {e : Env} {R : Room} {s : State} {m : MethodId} {args : Array Value} {below : List Frame} {meth : Method} {c : Code} {H : Heap} {locs : List Loc} {cells slots : Nat} {Q : State → Prop}
variable {α : Type} {Z : ZT} {L : List α} {A : α → Nat} {E : α → va_E} {A0 : Nat → Prop} {cc : ByteArray} {nL pc index : Nat} {own : String} {ls : Array Slot} {rest st : List Value} {a : Array Value}
variable {Qc : Array Value → State → Outcome → State → Prop} {XC : String → State → State → Prop} {mc ms : Nat}
theorem x_iret (S : CallFix p m c cc nL s args GT own) (hr : meth.sig.returnType = some .int) (hlk : meth.locks = false) (hc : cells ≤ mc) (hs : slots ≤ ms) (u : GM) {post : Int32 → GM → Prop} (hW : wX Z (ids u.1) u.2.1 (cE Z u.2.1 u.1 u.2.2) A0 s H locs) {v : Int32} (hp : post v u) (hdg : decode cc pc = .ok (.ireturn, 1)) :
    W p l e R s m args below meth c H locs cells slots (vx_MQ below (va_Qi post (fun (u : GM) t => qG Z A0 u t) A0) XC args s mc ms A0) (F0 m pc ls [.int v]) :=
  W.widen hc hs (vx_ret (W.iret S.1 S.2.1 hr (fun t ht _ => ⟨⟨v, u, rfl, hp, (wX_out hW ht).1⟩, (wX_out hW ht).2⟩) hW.2.2.1.2.2 hdg hlk))
theorem x_zret (S : CallFix p m c cc nL s args GT own) {ty : FieldType} (hr : meth.sig.returnType = some ty) (hlk : meth.locks = false) (hc : cells ≤ mc) (hs : slots ≤ ms) (u : GM) {post : Int32 → GM → Prop} (hW : wX Z (ids u.1) u.2.1 (cE Z u.2.1 u.1 u.2.2) A0 s H locs) {v : Int32} (hn : narrow ty (.int v) = .int v) (hp : post v u) (hdg : decode cc pc = .ok (.ireturn, 1)) :
    W p l e R s m args below meth c H locs cells slots (vx_MQ below (va_Qi post (fun (u : GM) t => qG Z A0 u t) A0) XC args s mc ms A0) (F0 m pc ls [.int v]) :=
  W.widen hc hs (vx_ret (W.zret S.1 S.2.1 hr hn (fun t ht _ => ⟨⟨v, u, rfl, hp, (wX_out hW ht).1⟩, (wX_out hW ht).2⟩) hW.2.2.1.2.2 hdg hlk))
theorem x_lret (S : CallFix p m c cc nL s args GT own) (hr : meth.sig.returnType = some .long) (hlk : meth.locks = false) (hc : cells ≤ mc) (hs : slots ≤ ms) (u : GM) {post : Int64 → GM → Prop} (hW : wX Z (ids u.1) u.2.1 (cE Z u.2.1 u.1 u.2.2) A0 s H locs) {v : Int64} (hp : post v u) (hdg : decode cc pc = .ok (.lreturn, 1)) :
    W p l e R s m args below meth c H locs cells slots (vx_MQ below (va_Ql post (fun (u : GM) t => qG Z A0 u t) A0) XC args s mc ms A0) (F0 m pc ls [.long v]) :=
  W.widen hc hs (vx_ret (W.lret S.1 S.2.1 hr (fun t ht _ => ⟨⟨v, u, rfl, hp, (wX_out hW ht).1⟩, (wX_out hW ht).2⟩) hW.2.2.1.2.2 hdg hlk))
theorem x_dret (S : CallFix p m c cc nL s args GT own) (hr : meth.sig.returnType = some .double) (hlk : meth.locks = false) (hc : cells ≤ mc) (hs : slots ≤ ms) (u : GM) {post : UInt64 → GM → Prop} (hW : wX Z (ids u.1) u.2.1 (cE Z u.2.1 u.1 u.2.2) A0 s H locs) {v : UInt64} (hp : post v u) (hdg : decode cc pc = .ok (.dreturn, 1)) :
    W p l e R s m args below meth c H locs cells slots (vx_MQ below (va_Qd post (fun (u : GM) t => qG Z A0 u t) A0) XC args s mc ms A0) (F0 m pc ls [.double v]) :=
  W.widen hc hs (vx_ret (W.dret S.1 S.2.1 hr (fun t ht _ => ⟨⟨v, u, rfl, hp, (wX_out hW ht).1⟩, (wX_out hW ht).2⟩) hW.2.2.1.2.2 hdg hlk))
theorem x_fret (S : CallFix p m c cc nL s args GT own) (hr : meth.sig.returnType = some .float) (hlk : meth.locks = false) (hc : cells ≤ mc) (hs : slots ≤ ms) (u : GM) {post : UInt32 → GM → Prop} (hW : wX Z (ids u.1) u.2.1 (cE Z u.2.1 u.1 u.2.2) A0 s H locs) {v : UInt32} (hp : post v u) (hdg : decode cc pc = .ok (.freturn, 1)) :
    W p l e R s m args below meth c H locs cells slots (vx_MQ below (va_Qf post (fun (u : GM) t => qG Z A0 u t) A0) XC args s mc ms A0) (F0 m pc ls [.float v]) :=
  W.widen hc hs (vx_ret (W.fret S.1 S.2.1 hr (fun t ht _ => ⟨⟨v, u, rfl, hp, (wX_out hW ht).1⟩, (wX_out hW ht).2⟩) hW.2.2.1.2.2 hdg hlk))
/-- a call of throwFault that throws: it leaves this method too -/
theorem x_tf (hZ : zOK Z) (S : CallFix p m c cc nL s args GT RX9) (hnt : ∀ x ∈ c.exceptionTable.toList, False) (hls : ls.size = nL) (hlk : meth.locks = false) (u : GM) (hW : wX Z (ids u.1) u.2.1 (cE Z u.2.1 u.1 u.2.2) A0 s H locs) {n : Nat} (hM : XT l n Z (ids u.1) u.2.1 (cE Z u.2.1 u.1 u.2.2) H.size) {px : Nat → GM → Prop} (hp : px n u) (hr : (rest.map fun v => v.category).sum ≤ 8) (hR : okR R 6 1) (hc : cells + 1 ≤ mc) (hs : slots + 6 ≤ ms) (hRc : cells + 1 ≤ R.cells) (hRs : slots + 6 ≤ R.slots) (hdg : decode cc pc = .ok (.invokestatic 82, 3)) :
    W p l e R s m args below meth c H locs cells slots (vx_MQ below Qc (XCx px Z A0) args s mc ms A0) (F0 m pc ls (.int (nI n) :: rest)) := by
  obtain ⟨k1, k2, k4, k5, k6⟩ := k_X9_82
  refine vx_callv (vx_runS S hM ⟨callB_GT S.2.2.2.2 k5 k4 k1 k6 hR, S.2.2.2.2 _ k2⟩ ⟨pB_blind hZ, fun U hU hw => ⟨rfl, wX_pre hZ hW hU hw⟩⟩ rfl rfl hls (rest := rest) rfl (lv_room hr) hdg ⟨hRc, hRs⟩) hW.2.2.1 (fun q _ h => wX_fA hW q h) (wX_fA hW) (fun q _ h => wX_fA hW q h) (fun E' ce q9 _ t H1 locs1 ht ha _ hB h1 h2 hS k7 k8 k9 => ?_) (fun _ t H1 locs1 ht _ hp' hB _ _ hS => hp'.elim)
  have hW2 := wX_back2 hW ht hB.2 hS
  exact vx_out (fun x hx => (hnt x hx).elim) hlk k7 k8 k9 (fun t2 ht2 _ => ⟨(n, u), hp, ⟨hB.1, (wX_out hW2 ht2).1⟩, (wX_out hW2 ht2).2⟩) hW2.2.2.1.2.2 hc hs
end RW14
