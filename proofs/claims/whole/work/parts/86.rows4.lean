/-! what stands outside the worlds: the commands' words, and the JDK's strings -/
/-- a string of n bytes -/
def SO (k kv n : Nat) (f : Nat → Int32) (A : Nat → Prop) (U : State) (H : Heap) : Prop := va_O "java/lang/String" k A U H ∧ va_OF "java/lang/String" "coder" "B" (.int 0) k A U H ∧ va_OF "java/lang/String" "value" "[B" (.ref kv) k A U H ∧ va_T .byte kv n (fun j => .int (f j)) A U H
def JST (A : Nat → Prop) (U : State) (H : Heap) : Prop := va_Z "java/lang/String" "COMPACT_STRINGS" "Z" (.int 1) A U H ∧ va_Zq "jdk/internal/util/Preconditions" "SIOOBE_FORMATTER" "Ljava/util/function/BiFunction;" A U H
/-- the words: the row's place, the words', their keys', the keys' bytes', their forms', the forms' bytes' -/
abbrev WDT := Nat × (Nat → Nat) × (Nat → Nat) × (Nat → Nat) × (Nat → Nat) × (Nat → Nat)
/-- the forms: how many numbers, and how many digits -/
def fmN (w : Nat) : Nat := if w = 4 then 0 else if w = 7 then 4 else if w = 9 ∨ w = 11 then 2 else 1
def fmC (w i : Nat) : Nat := if w < 6 then 110 else if w = 7 then (if i = 0 then 100 else 110) else if w = 9 then (if i = 0 then 100 else 110) else 100
def WDS (wd : WDT) (A : Nat → Prop) (U : State) (H : Heap) : Prop :=
  JST A U H ∧ va_Z "SongRefinery" "WORDS" "[LSongRefinery$Word;" (.ref wd.1) A U H ∧ va_T (.object "SongRefinery$Word") wd.1 12 (fun j => .ref (wd.2.1 j)) A U H ∧
  ∀ j, j < 12 → va_OF "SongRefinery$Word" "key" "Ljava/lang/String;" (.ref (wd.2.2.1 j)) (wd.2.1 j) A U H ∧ va_OF "SongRefinery$Word" "form" "Ljava/lang/String;" (.ref (wd.2.2.2.2.1 j)) (wd.2.1 j) A U H ∧ va_OF "SongRefinery$Word" "sign" "I" (.int (nI (WS j))) (wd.2.1 j) A U H ∧
    SO (wd.2.2.1 j) (wd.2.2.2.1 j) (wl j) (fun i => nI (kc j i)) A U H ∧ SO (wd.2.2.2.2.1 j) (wd.2.2.2.2.2 j) (fmN j) (fun i => nI (fmC j i)) A U H
/-- the words stand -/
def ZW (Z : ZT) (wd : WDT) : Prop := ∀ (A : Nat → Prop) (U : State) (H : Heap), zS Z A U H → WDS wd A U H
section RW9
variable {p : Program} {l : Launch} {e : Env} {R : Room} {s : State} {m : MethodId} {args : Array Value} {below : List Frame} {meth : Method} {c : Code} {H : Heap} {locs : List Loc} {cells slots : Nat} {Q : State → Prop}
variable {α : Type} {Z : ZT} {L : List α} {A : α → Nat} {E : α → va_E} {A0 : Nat → Prop} {cc : ByteArray} {nL pc index : Nat} {own : String} {ls : Array Slot} {rest : List Value}
theorem r_gets (S : CallFix p m c cc nL s args GT own) (hW : wX Z L A E A0 s H locs) {C n d : String} {v : Value} (hz : va_Z C n d v A0 s s.heap) (hlink : Cond.fieldLink own index C n d ∈ GT) (hdg : decode cc pc = .ok (.getstatic index, 3))
    (kk : W p l e R s m args below meth c H locs cells slots Q (F0 m (pc + 3) ls (v :: rest))) : W p l e R s m args below meth c H locs cells slots Q (F0 m pc ls rest) :=
  va_gets S.1 S.2.1 hz hW.2.2.1 S.2.2.2.1 (S.2.2.2.2 _ hlink) (fun _ h => h) hdg kk
theorem r_getsN (S : CallFix p m c cc nL s args GT own) (hZ : zOK Z) (hW : wX Z L A E A0 s H locs) {C n d host : String} {v : Value} (hz : va_Z C n d v A0 s s.heap) (hlink : Cond.fieldLinkNest own index C n d host ∈ NLW) (hnw : ∀ (a : Array Value), va_Nw (Cond.fieldLinkNest own index C n d host) s → (Cond.fieldLinkNest own index C n d host).before a s = true) (hdg : decode cc pc = .ok (.getstatic index, 3))
    (kk : W p l e R s m args below meth c H locs cells slots Q (F0 m (pc + 3) ls (v :: rest))) : W p l e R s m args below meth c H locs cells slots Q (F0 m pc ls rest) :=
  va_getsN S.1 S.2.1 hz hW.2.2.1 S.2.2.2.1 (hnw args (hZ.2.2.2.2 _ _ _ hW.2.2.2.2.2 _ hlink)) (fun _ h => h) hdg kk
theorem r_getO (S : CallFix p m c cc nL s args GT own) (hW : wX Z L A E A0 s H locs) {o n d : String} {q : Nat} {v : Value} (hz : va_OF o n d v q A0 s s.heap) (hlink : Cond.fieldLink own index o n d ∈ GT) (hdg : decode cc pc = .ok (.getfield index, 3))
    (kk : W p l e R s m args below meth c H locs cells slots Q (F0 m (pc + 3) ls (v :: rest))) : W p l e R s m args below meth c H locs cells slots Q (F0 m pc ls (.ref q :: rest)) :=
  vk_getf S.1 S.2.1 hz hW.2.2.1 S.2.2.2.1 (S.2.2.2.2 _ hlink) (fun _ h => h) hdg kk
theorem r_tlen (S : CallFix p m c cc nL s args GT own) (hW : wX Z L A E A0 s H locs) {ty : FieldType} {t N : Nat} {f : Nat → Value} (hT : va_T ty t N f A0 s s.heap) (hdg : decode cc pc = .ok (.arraylength, 1))
    (kk : W p l e R s m args below meth c H locs cells slots Q (F0 m (pc + 1) ls (.int (nI N) :: rest))) : W p l e R s m args below meth c H locs cells slots Q (F0 m pc ls (.ref t :: rest)) :=
  va_tlen S.1 S.2.1 hT hW.2.2.1 rfl hdg kk
theorem r_tq (S : CallFix p m c cc nL s args GT own) (hW : wX Z L A E A0 s H locs) {C : String} {t N k : Nat} {f : Nat → Nat} (hT : va_T (.object C) t N (fun j => .ref (f j)) A0 s s.heap) (hk : k < N) (hN : N < 2 ^ 31) (hdg : decode cc pc = .ok (.aaload, 1))
    (kk : W p l e R s m args below meth c H locs cells slots Q (F0 m (pc + 1) ls (.ref (f k) :: rest))) : W p l e R s m args below meth c H locs cells slots Q (F0 m pc ls (.int (nI k) :: .ref t :: rest)) :=
  vb_tq S.1 S.2.1 hT hW.2.2.1 (vp_in_nI hk hN) (v := .ref (f k)) (by rw [nI_clamp (by omega)]) hdg kk
theorem r_tb (S : CallFix p m c cc nL s args GT own) (hW : wX Z L A E A0 s H locs) {t N k : Nat} {f : Nat → Int32} (hT : va_T .byte t N (fun j => .int (f j)) A0 s s.heap) (hk : k < N) (hN : N < 2 ^ 31) (hdg : decode cc pc = .ok (.baload, 1))
    (kk : W p l e R s m args below meth c H locs cells slots Q (F0 m (pc + 1) ls (.int (f k) :: rest))) : W p l e R s m args below meth c H locs cells slots Q (F0 m pc ls (.int (nI k) :: .ref t :: rest)) :=
  va_tb S.1 S.2.1 hT hW.2.2.1 (vp_in_nI hk hN) (v := .int (f k)) (by rw [nI_clamp (by omega)]) hdg kk
end RW9
theorem and255 {n : Nat} (h : n < 256) : nI n &&& nI 255 = nI n := by
  rw [pk_and (nI n) 8 (by decide), pk_tn (by omega)]
  congr 1
  exact Nat.mod_eq_of_lt h
theorem i2c_n {n : Nat} (h : n < 65536) : ((nI n).toUInt32 % 65536).toInt32 = nI n := lg_i2c_word (by rw [nI_toInt (by omega)]; omega) (by rw [nI_toInt (by omega)]; omega)
theorem nar_n {n : Nat} (h : n < 65536) : narrow .char (.int (nI n)) = .int (nI n) := CH_nar ⟨n, h, rfl⟩
abbrev XCv (l : Launch) (y : MethodName) (cc : ByteArray) (nL : Nat) (d : Nat) (As : List Value) (Z : ZT) {α : Type} (L : List α) (A : α → Nat) (E : α → va_E) (sz : Nat) : Prop :=
  Met l y (hdW y cc nL none) (rmD d 0 0) (va_Pc As (pB Z L A E sz)) (va_Qv (fun (_ : Unit) => True) (fun _ t => qB Z L A E (fA L A E sz) t) (fA L A E sz)) 0 0 (fA L A E sz)
section RW10
variable {p : Program} {l : Launch} {e : Env} {R : Room} {s : State} {m : MethodId} {args : Array Value} {below : List Frame} {meth : Method} {c : Code} {H : Heap} {locs : List Loc} {cells slots : Nat} {Q : State → Prop}
variable {α : Type} {Z : ZT} {L : List α} {A : α → Nat} {E : α → va_E} {A0 : Nat → Prop} {cc : ByteArray} {nL pc index : Nat} {own : String} {ls : Array Slot} {rest st : List Value} {a : Array Value}
theorem r_vret0 (S : CallFix p m c cc nL s args GT own) (hr : meth.sig.returnType = none) (hlk : meth.locks = false) (hW : wX Z L A E A0 s H locs) (hdg : decode cc pc = .ok (.return_, 1)) :
    W p l e R s m args below meth c H locs cells slots (MQ below (va_Qv (fun (_ : Unit) => True) (fun _ t => qB Z L A E A0 t) A0) args s cells slots A0) (F0 m pc ls []) :=
  W.vret S.1 S.2.1 hr (fun t ht _ => ⟨⟨(), rfl, True.intro, (wX_out hW ht).1⟩, (wX_out hW ht).2⟩) hW.2.2.1.2.2 hdg hlk
theorem r_callv0 (hr : va_Run p l e R s m args below meth c H locs cells slots 0 0 (F0 m pc ls st) rest (va_Qv (fun (_ : Unit) => True) (fun _ t => qB Z L A E (fA L A E H.size) t) (fA L A E H.size) a) (fA L A E H.size)) (hW : wX Z L A E A0 s H locs)
    (kk : ∀ (H1 : Heap) (locs1 : List Loc), wX Z L A E A0 s H1 locs1 → W p l e R s m args below meth c H1 locs1 cells slots Q (F0 m (pc + 3) ls rest)) : W p l e R s m args below meth c H locs cells slots Q (F0 m pc ls st) :=
  va_callv hr hW.2.2.1 (fun q _ h => wX_fA hW q h) (wX_fA hW) (fun _ t H1 locs1 ht _ hp hB _ _ hS => kk H1 locs1 (wX_back hW ht hB hS))
end RW10
