/-! CALLS over the list GT: links, runs, what comes back -/
theorem GT_goodIn {w : Cond} (h : w ∈ GT) : GoodIn GT (w :: GT) := fun v hv => by
  rcases List.mem_cons.mp hv with rfl | hv
  · exact ⟨h, GT_good h⟩
  · exact ⟨hv, GT_good hv⟩
abbrev lkD (y : MethodName) (n : Nat) : Prop := y.cls ≠ "java/lang/invoke/MethodHandle" ∧ y.cls ≠ "java/lang/invoke/VarHandle" ∧ (parseMethodDescriptor y.desc).map (fun d => d.parameters.length) = some n
def lkV (own C : String) (index : Nat) (y : MethodName) (bytes : ByteArray) (maxL : Nat) (ret : Option FieldType) (n : Nat) : Prop :=
  Cond.methodLink own index y ∈ GT ∧ Cond.instanceMethod y ∈ GT ∧ Cond.selects C y y ∈ GT ∧ Cond.initialized y.cls ∈ GT ∧ Cond.code y bytes maxL ret ∈ GT ∧ lkD y n
def lkS (own : String) (index : Nat) (y : MethodName) (bytes : ByteArray) (maxL : Nat) (ret : Option FieldType) (n : Nat) : Prop :=
  Cond.methodLink own index y ∈ GT ∧ Cond.static y ∈ GT ∧ Cond.initialized y.cls ∈ GT ∧ Cond.code y bytes maxL ret ∈ GT ∧ lkD y n
def lkI (own : String) (index : Nat) (y : MethodName) (bytes : ByteArray) (maxL : Nat) (n : Nat) : Prop :=
  Cond.methodLink own index y ∈ GT ∧ Cond.instanceMethod y ∈ GT ∧ Cond.initialized y.cls ∈ GT ∧ Cond.code y bytes maxL none ∈ GT ∧ y.name = "<init>" ∧ lkD y n
def lkVN (own C host : String) (index : Nat) (y : MethodName) (bytes : ByteArray) (maxL : Nat) (ret : Option FieldType) (n : Nat) : Prop :=
  Cond.methodLinkNest own index y host ∈ NLW ∧ Cond.instanceMethod y ∈ GT ∧ Cond.selects C y y ∈ GT ∧ Cond.initialized y.cls ∈ GT ∧ Cond.code y bytes maxL ret ∈ GT ∧ lkD y n
def lkSN (own host : String) (index : Nat) (y : MethodName) (bytes : ByteArray) (maxL : Nat) (ret : Option FieldType) (n : Nat) : Prop :=
  Cond.methodLinkNest own index y host ∈ NLW ∧ Cond.static y ∈ GT ∧ Cond.initialized y.cls ∈ GT ∧ Cond.code y bytes maxL ret ∈ GT ∧ lkD y n
def lkIN (own host : String) (index : Nat) (y : MethodName) (bytes : ByteArray) (maxL : Nat) (n : Nat) : Prop :=
  Cond.methodLinkNest own index y host ∈ NLW ∧ Cond.instanceMethod y ∈ GT ∧ Cond.initialized y.cls ∈ GT ∧ Cond.code y bytes maxL none ∈ GT ∧ y.name = "<init>" ∧ lkD y n

section RW2
variable {p : Program} {l : Launch} {e : Env} {R : Room} {s : State} {m : MethodId} {args : Array Value} {below : List Frame} {meth : Method} {c : Code} {H : Heap} {locs : List Loc} {cells slots : Nat} {Q : State → Prop}
variable {α : Type} {Z : ZT} {L : List α} {A : α → Nat} {E : α → va_E} {A0 : Nat → Prop} {cc : ByteArray} {nL pc index : Nat} {own C host : String} {ls : Array Slot} {rest st : List Value}
variable {y : MethodName} {bytes : ByteArray} {maxL d mc ms n : Nat} {ret : Option FieldType} {Qc : Array Value → State → Outcome → State → Prop} {free : Addr → Prop} {b : Addr}
abbrev okR (R : Room) (d maxL : Nat) : Prop := d + 1 ≤ R.frames ∧ 8 + (maxL + 11) + 40 * d ≤ R.locals
theorem callB_GT (hts : ∀ w ∈ GT, w.before args s = true) (hc : Cond.code y bytes maxL ret ∈ GT) (hini : Cond.initialized y.cls ∈ GT) (hl : Cond.methodLink own index y ∈ GT) (hd : lkD y n) (hR : okR R d maxL) :
    CallB R s args own index y bytes maxL ret (Cond.code y bytes maxL ret :: GT) (rmD d mc ms) mc ms n :=
  callB_of n hts (GT_goodIn hc) rfl rfl rfl (hts _ hini) (hts _ hl) hd hR
theorem callN_GT (hZ : zOK Z) (hs : zS Z A0 s s.heap) (hts : ∀ w ∈ GT, w.before args s = true) (hc : Cond.code y bytes maxL ret ∈ GT) (hini : Cond.initialized y.cls ∈ GT) (hl : Cond.methodLinkNest own index y host ∈ NLW) (hd : lkD y n) (hR : okR R d maxL) :
    va_CN R s args own index y host bytes maxL ret (Cond.code y bytes maxL ret :: GT) (rmD d mc ms) mc ms n :=
  va_cnB n hts (GT_goodIn hc) rfl rfl rfl (hZ.2.2.2.2 _ _ _ hs _ hl) (hts _ hini) hd hR
theorem r_runV (hZ : zOK Z) (S : CallFix p m c cc nL s args GT own) (hW : wX Z L A E A0 s H locs) {As : List Value} (hM : Met l y (Cond.code y bytes maxL ret :: GT) (rmD d mc ms) (va_Pc (.ref b :: As) (pB Z L A E H.size)) Qc mc ms free) (lk : lkV own C index y bytes maxL ret n)
    (hrecv : ∃ cell : Cell, H[b]? = some cell ∧ cell.vm.isStatics = false ∧ s.vm.findClass C = some cell.cls) (hl : ls.size = nL) (hn : As.length = n) (hst : st = As.reverse ++ .ref b :: rest) (hr : (rest.map fun v => v.category).sum ≤ 8) (hR : okR R d maxL) (hf : cells + mc ≤ R.cells ∧ slots + ms ≤ R.slots) (hdg : decode cc pc = .ok (.invokevirtual index, 3)) :
    va_Run p l e R s m args below meth c H locs cells slots mc ms (F0 m pc ls st) rest (Qc (Value.ref b :: As).toArray) free := by
  obtain ⟨k1, k2, k3, k4, k5, k6⟩ := lk
  exact va_runV S hM ⟨callB_GT S.2.2.2.2 k5 k4 k1 k6 hR, S.2.2.2.2 _ k2, S.2.2.2.2 _ k3⟩ ⟨pB_blind hZ, hrecv, fun U hU hw => ⟨rfl, wX_pre hZ hW hU hw⟩⟩ rfl hn hl hst (lv_room hr) hdg hf
theorem r_runVN (hZ : zOK Z) (S : CallFix p m c cc nL s args GT own) (hW : wX Z L A E A0 s H locs) {As : List Value} (hM : Met l y (Cond.code y bytes maxL ret :: GT) (rmD d mc ms) (va_Pc (.ref b :: As) (pB Z L A E H.size)) Qc mc ms free) (lk : lkVN own C host index y bytes maxL ret n)
    (hrecv : ∃ cell : Cell, H[b]? = some cell ∧ cell.vm.isStatics = false ∧ s.vm.findClass C = some cell.cls) (hl : ls.size = nL) (hn : As.length = n) (hst : st = As.reverse ++ .ref b :: rest) (hr : (rest.map fun v => v.category).sum ≤ 8) (hR : okR R d maxL) (hf : cells + mc ≤ R.cells ∧ slots + ms ≤ R.slots) (hdg : decode cc pc = .ok (.invokevirtual index, 3)) :
    va_Run p l e R s m args below meth c H locs cells slots mc ms (F0 m pc ls st) rest (Qc (Value.ref b :: As).toArray) free := by
  obtain ⟨k1, k2, k3, k4, k5, k6⟩ := lk
  exact va_runVN S hM ⟨callN_GT hZ hW.2.2.2.2.2 S.2.2.2.2 k5 k4 k1 k6 hR, S.2.2.2.2 _ k2, S.2.2.2.2 _ k3⟩ ⟨pB_blind hZ, hrecv, fun U hU hw => ⟨rfl, wX_pre hZ hW hU hw⟩⟩ rfl hn hl hst (lv_room hr) hdg hf
theorem r_runS (hZ : zOK Z) (S : CallFix p m c cc nL s args GT own) (hW : wX Z L A E A0 s H locs) {As : List Value} (hM : Met l y (Cond.code y bytes maxL ret :: GT) (rmD d mc ms) (va_Pc As (pB Z L A E H.size)) Qc mc ms free) (lk : lkS own index y bytes maxL ret n)
    (hl : ls.size = nL) (hn : As.length = n) (hst : st = As.reverse ++ rest) (hr : (rest.map fun v => v.category).sum ≤ 8) (hR : okR R d maxL) (hf : cells + mc ≤ R.cells ∧ slots + ms ≤ R.slots) (hdg : decode cc pc = .ok (.invokestatic index, 3)) :
    va_Run p l e R s m args below meth c H locs cells slots mc ms (F0 m pc ls st) rest (Qc As.toArray) free := by
  obtain ⟨k1, k2, k4, k5, k6⟩ := lk
  exact va_runS S hM ⟨callB_GT S.2.2.2.2 k5 k4 k1 k6 hR, S.2.2.2.2 _ k2⟩ ⟨pB_blind hZ, fun U hU hw => ⟨rfl, wX_pre hZ hW hU hw⟩⟩ rfl hn hl hst (lv_room hr) hdg hf
theorem r_runSN (hZ : zOK Z) (S : CallFix p m c cc nL s args GT own) (hW : wX Z L A E A0 s H locs) {As : List Value} (hM : Met l y (Cond.code y bytes maxL ret :: GT) (rmD d mc ms) (va_Pc As (pB Z L A E H.size)) Qc mc ms free) (lk : lkSN own host index y bytes maxL ret n)
    (hl : ls.size = nL) (hn : As.length = n) (hst : st = As.reverse ++ rest) (hr : (rest.map fun v => v.category).sum ≤ 8) (hR : okR R d maxL) (hf : cells + mc ≤ R.cells ∧ slots + ms ≤ R.slots) (hdg : decode cc pc = .ok (.invokestatic index, 3)) :
    va_Run p l e R s m args below meth c H locs cells slots mc ms (F0 m pc ls st) rest (Qc As.toArray) free := by
  obtain ⟨k1, k2, k4, k5, k6⟩ := lk
  exact va_runSN S hM ⟨callN_GT hZ hW.2.2.2.2.2 S.2.2.2.2 k5 k4 k1 k6 hR, S.2.2.2.2 _ k2, trivial⟩ ⟨pB_blind hZ, fun U hU hw => ⟨rfl, wX_pre hZ hW hU hw⟩⟩ rfl hn hl hst (lv_room hr) hdg hf
variable {a : Array Value} {M : Type} {F : M → α → va_E} {m0 : M}
theorem r_calli {post : Int32 → M → Prop} (hr : va_Run p l e R s m args below meth c H locs cells slots 0 0 (F0 m pc ls st) rest (va_Qi post (fun u t => qB Z L A (F u) (fA L A (F m0) H.size) t) (fA L A (F m0) H.size) a) (fA L A (F m0) H.size)) (hW : wX Z L A (F m0) A0 s H locs)
    (kk : ∀ (r : Int32) (u : M) (H1 : Heap) (locs1 : List Loc), post r u → wX Z L A (F u) A0 s H1 locs1 → W p l e R s m args below meth c H1 locs1 cells slots Q (F0 m (pc + 3) ls (.int r :: rest))) : W p l e R s m args below meth c H locs cells slots Q (F0 m pc ls st) :=
  va_calli hr hW.2.2.1 (fun q _ h => wX_fA hW q h) (wX_fA hW) (fun r u t H1 locs1 ht _ hp hB _ _ hS => kk r u H1 locs1 hp (wX_back hW ht hB hS))
theorem r_calll {post : Int64 → M → Prop} (hr : va_Run p l e R s m args below meth c H locs cells slots 0 0 (F0 m pc ls st) rest (va_Ql post (fun u t => qB Z L A (F u) (fA L A (F m0) H.size) t) (fA L A (F m0) H.size) a) (fA L A (F m0) H.size)) (hW : wX Z L A (F m0) A0 s H locs)
    (kk : ∀ (r : Int64) (u : M) (H1 : Heap) (locs1 : List Loc), post r u → wX Z L A (F u) A0 s H1 locs1 → W p l e R s m args below meth c H1 locs1 cells slots Q (F0 m (pc + 3) ls (.long r :: rest))) : W p l e R s m args below meth c H locs cells slots Q (F0 m pc ls st) :=
  va_calll hr hW.2.2.1 (fun q _ h => wX_fA hW q h) (wX_fA hW) (fun r u t H1 locs1 ht _ hp hB _ _ hS => kk r u H1 locs1 hp (wX_back hW ht hB hS))
theorem r_callv {post : M → Prop} (hr : va_Run p l e R s m args below meth c H locs cells slots 0 0 (F0 m pc ls st) rest (va_Qv post (fun u t => qB Z L A (F u) (fA L A (F m0) H.size) t) (fA L A (F m0) H.size) a) (fA L A (F m0) H.size)) (hW : wX Z L A (F m0) A0 s H locs)
    (kk : ∀ (u : M) (H1 : Heap) (locs1 : List Loc), post u → wX Z L A (F u) A0 s H1 locs1 → W p l e R s m args below meth c H1 locs1 cells slots Q (F0 m (pc + 3) ls rest)) : W p l e R s m args below meth c H locs cells slots Q (F0 m pc ls st) :=
  va_callv hr hW.2.2.1 (fun q _ h => wX_fA hW q h) (wX_fA hW) (fun u t H1 locs1 ht _ hp hB _ _ hS => kk u H1 locs1 hp (wX_back hW ht hB hS))
end RW2
