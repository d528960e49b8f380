/-! contracts and rows that answer numbers with a point -/
abbrev XMd (l : Launch) (y : MethodName) (cc : ByteArray) (nL : Nat) (ret : Option FieldType) (d : Nat) (As : List Value) (Z : ZT) {α M : Type} (L : List α) (A : α → Nat) (F : M → α → va_E) (μ : M) (sz : Nat) (post : UInt64 → M → Prop) : Prop :=
  Met l y (hdW y cc nL ret) (rmD d 0 0) (va_Pc As (pB Z L A (F μ) sz)) (va_Qd post (fun u t => qB Z L A (F u) (fA L A (F μ) sz) t) (fA L A (F μ) sz)) 0 0 (fA L A (F μ) sz)
abbrev XMf (l : Launch) (y : MethodName) (cc : ByteArray) (nL : Nat) (ret : Option FieldType) (d : Nat) (As : List Value) (Z : ZT) {α M : Type} (L : List α) (A : α → Nat) (F : M → α → va_E) (μ : M) (sz : Nat) (post : UInt32 → M → Prop) : Prop :=
  Met l y (hdW y cc nL ret) (rmD d 0 0) (va_Pc As (pB Z L A (F μ) sz)) (va_Qf post (fun u t => qB Z L A (F u) (fA L A (F μ) sz) t) (fA L A (F μ) sz)) 0 0 (fA L A (F μ) sz)
section RW9
variable {p : Program} {l : Launch} {e : Env} {R : Room} {s : State} {m : MethodId} {args : Array Value} {below : List Frame} {meth : Method} {c : Code} {H : Heap} {locs : List Loc} {cells slots : Nat} {Q : State → Prop}
variable {α M : Type} {Z : ZT} {L : List α} {A : α → Nat} {F : M → α → va_E} {u : M} {A0 : Nat → Prop} {cc : ByteArray} {nL pc : Nat} {own : String} {ls : Array Slot}
theorem r_dret (S : CallFix p m c cc nL s args GT own) (hr : meth.sig.returnType = some .double) (hlk : meth.locks = false) {post : UInt64 → M → Prop} (hW : wX Z L A (F u) A0 s H locs) {v : UInt64} (hp : post v u) (hdg : decode cc pc = .ok (.dreturn, 1)) :
    W p l e R s m args below meth c H locs cells slots (MQ below (va_Qd post (fun u t => qB Z L A (F u) A0 t) A0) args s cells slots A0) (F0 m pc ls [.double v]) :=
  W.dret S.1 S.2.1 hr (fun t ht _ => ⟨⟨v, u, rfl, hp, (wX_out hW ht).1⟩, (wX_out hW ht).2⟩) hW.2.2.1.2.2 hdg hlk
theorem r_fret (S : CallFix p m c cc nL s args GT own) (hr : meth.sig.returnType = some .float) (hlk : meth.locks = false) {post : UInt32 → M → Prop} (hW : wX Z L A (F u) A0 s H locs) {v : UInt32} (hp : post v u) (hdg : decode cc pc = .ok (.freturn, 1)) :
    W p l e R s m args below meth c H locs cells slots (MQ below (va_Qf post (fun u t => qB Z L A (F u) A0 t) A0) args s cells slots A0) (F0 m pc ls [.float v]) :=
  W.fret S.1 S.2.1 hr (fun t ht _ => ⟨⟨v, u, rfl, hp, (wX_out hW ht).1⟩, (wX_out hW ht).2⟩) hW.2.2.1.2.2 hdg hlk
end RW9
