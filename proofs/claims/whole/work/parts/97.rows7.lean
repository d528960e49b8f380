/-! worlds that grow: which ring states live, where the cells stand, what they hold -/
abbrev GM := (Nat → Bool) × (Nat × Nat → Nat) × CM
def qG (Z : ZT) (F : Nat → Prop) (u : GM) (t : State) : Prop := qB Z (ids u.1) u.2.1 (cE Z u.2.1 u.1 u.2.2) F t
abbrev XCr (l : Launch) (y : MethodName) (cc : ByteArray) (nL : Nat) (ret : Option FieldType) (d : Nat) (As : List Value) (Z : ZT) {α : Type} (L : List α) (A : α → Nat) (E : α → va_E) (sz : Nat) (rb : Nat) : Prop :=
  Met l y (hdW y cc nL ret) (rmD d 0 0) (va_Pc As (pB Z L A E sz)) (va_Qr (fun (_ : Unit) => True) (fun _ a t => a = rb ∧ qB Z L A E (fA L A E sz) t) (fA L A E sz)) 0 0 (fA L A E sz)
abbrev XGr (l : Launch) (y : MethodName) (cc : ByteArray) (nL : Nat) (ret : Option FieldType) (d mc ms : Nat) (As : List Value) (Z : ZT) {α : Type} (L : List α) (A : α → Nat) (E : α → va_E) (sz : Nat) (rx : Nat × Nat) (post : GM → Prop) : Prop :=
  Met l y (hdW y cc nL ret) (rmD d mc ms) (va_Pc As (pB Z L A E sz)) (va_Qr post (fun (u : GM) a t => a = u.2.1 rx ∧ qG Z (fA L A E sz) u t) (fA L A E sz)) mc ms (fA L A E sz)
abbrev XGv (l : Launch) (y : MethodName) (cc : ByteArray) (nL d mc ms : Nat) (As : List Value) (Z : ZT) {α : Type} (L : List α) (A : α → Nat) (E : α → va_E) (sz : Nat) (post : GM → Prop) : Prop :=
  Met l y (hdW y cc nL none) (rmD d mc ms) (va_Pc As (pB Z L A E sz)) (va_Qv post (fun (u : GM) t => qG Z (fA L A E sz) u t) (fA L A E sz)) mc ms (fA L A E sz)
theorem wX_back2 {α β : Type} {Z : ZT} {L : List α} {L' : List β} {A : α → Nat} {A' : β → Nat} {E : α → va_E} {E' : β → va_E} {A0 : Nat → Prop} {s t : State} {H H1 : Heap} {locs locs1 : List Loc} (h : wX Z L A E A0 s H locs) (ht : t.heap = H1) (hq : qB Z L' A' E' (fA L A E H.size) t) (hS : va_S A0 s.heap H1 locs1) : wX Z L' A' E' A0 s H1 locs1 := by
  have hf := wX_fA h
  obtain ⟨h1, h2, h3, h4, h5, h6⟩ := h
  exact ⟨by rw [← ht]; exact hq.1, hq.2.weaken (fun _ _ _ h => hf _ h), hS, h4, h5, h6⟩
section RW12
variable {p : Program} {l : Launch} {e : Env} {R : Room} {s : State} {m : MethodId} {args : Array Value} {below : List Frame} {meth : Method} {c : Code} {H : Heap} {locs : List Loc} {cells slots : Nat} {Q : State → Prop}
variable {α : Type} {Z : ZT} {L : List α} {A : α → Nat} {E : α → va_E} {A0 : Nat → Prop} {cc : ByteArray} {nL pc index : Nat} {own : String} {ls : Array Slot} {rest st : List Value} {a : Array Value}
/-- a state of a row is read, and laid -/
theorem r_aldq (S : CallFix p m c cc nL s args GT own) (hW : wX Z L A E A0 s H locs) {x : α} (hx : x ∈ L) {n k : Nat} {f : Nat → Option Nat} (he : E x = .inl (zR Z, n, .inr (.inr (.inr (.inr f))))) (hk : k < n) (hn : n < 2 ^ 31) (hdg : decode cc pc = .ok (.aaload, 1))
    (kk : W p l e R s m args below meth c H locs cells slots Q (F0 m (pc + 1) ls (va_rf (f k) :: rest))) : W p l e R s m args below meth c H locs cells slots Q (F0 m pc ls (.int (nI k) :: .ref (A x) :: rest)) := by
  obtain ⟨h1, h2, h3, h4, h5, h6⟩ := hW
  obtain ⟨q0, hq0⟩ := List.getElem?_of_mem hx
  have hq1 := cwl_at (A := A) (E := E) hq0
  rw [he] at hq1
  refine va_aldq S.1 S.2.1 h4 h1 q0 1 hq1 rfl (vp_in_nI hk hn) hdg ?_
  rw [nI_clamp (by omega)]
  exact kk
theorem r_astq (S : CallFix p m c cc nL s args GT own) (hW : wX Z L A E A0 s H locs) {x y : α} (hx : x ∈ L) (hy : y ∈ L) {n k : Nat} {f : Nat → Option Nat} {vs : List Value} (he : E x = .inl (zR Z, n, .inr (.inr (.inr (.inr f))))) (hv : E y = .inr (8, vs)) (hk : k < n) (hn : n < 2 ^ 31) {E' : α → va_E} (h1' : E' x = .inl (zR Z, n, .inr (.inr (.inr (.inr (va_up f k (some (A y)))))))) (h2' : ∀ z, z ≠ x → E' z = E z) (hdg : decode cc pc = .ok (.aastore, 1))
    (kk : ∀ (H1 : Heap) (locs1 : List Loc), wX Z L A E' A0 s H1 locs1 → W p l e R s m args below meth c H1 locs1 cells slots Q (F0 m (pc + 1) ls rest)) : W p l e R s m args below meth c H locs cells slots Q (F0 m pc ls (.ref (A y) :: .int (nI k) :: .ref (A x) :: rest)) := by
  obtain ⟨h1, h2, h3, h4, h5, h6⟩ := hW
  obtain ⟨q0, hq0⟩ := List.getElem?_of_mem hx
  obtain ⟨qk, hqk⟩ := List.getElem?_of_mem hy
  have hq1 := cwl_at (A := A) (E := E) hq0
  have hq2 := cwl_at (A := A) (E := E) hqk
  rw [he] at hq1
  rw [hv] at hq2
  refine va_astq S.1 S.2.1 h4 h1 h2 h3 q0 1 qk 8 (r := (RX6, TX6, 3)) hq1 rfl hq2 rfl (vp_in_nI hk hn) hdg (fun H1 locs1 k1 k2 k3 => ?_)
  rw [nI_clamp (by omega), cwl_set h2 hq0 h1' h2'] at k1
  exact kk H1 locs1 ⟨k1, cwl_D h2, k3, h4, h5, h6⟩
theorem r_aret0 (S : CallFix p m c cc nL s args GT own) {n : String} (hr : meth.sig.returnType = some (.object n)) (hlk : meth.locks = false) (hW : wX Z L A E A0 s H locs) {rb v : Nat} (hv : v = rb) (hdg : decode cc pc = .ok (.areturn, 1)) :
    W p l e R s m args below meth c H locs cells slots (MQ below (va_Qr (fun (_ : Unit) => True) (fun _ a t => a = rb ∧ qB Z L A E A0 t) A0) args s cells slots A0) (F0 m pc ls [.ref v]) :=
  W.aret S.1 S.2.1 hr (Or.inl ⟨_, rfl⟩) (Or.inr ⟨v, rfl⟩) (fun t ht _ => ⟨⟨(), v, rfl, True.intro, hv, (wX_out hW ht).1⟩, (wX_out hW ht).2⟩) hW.2.2.1.2.2 hdg hlk
theorem r_aretG (S : CallFix p m c cc nL s args GT own) {n : String} (hr : meth.sig.returnType = some (.object n)) (hlk : meth.locks = false) (u : GM) {rx : Nat × Nat} {post : GM → Prop} (hW : wX Z (ids u.1) u.2.1 (cE Z u.2.1 u.1 u.2.2) A0 s H locs) (hp : post u) {v : Nat} (hv : v = u.2.1 rx) (hdg : decode cc pc = .ok (.areturn, 1)) :
    W p l e R s m args below meth c H locs cells slots (MQ below (va_Qr post (fun (u : GM) a t => a = u.2.1 rx ∧ qG Z A0 u t) A0) args s cells slots A0) (F0 m pc ls [.ref v]) :=
  W.aret S.1 S.2.1 hr (Or.inl ⟨_, rfl⟩) (Or.inr ⟨v, rfl⟩) (fun t ht _ => ⟨⟨u, v, rfl, hp, hv, (wX_out hW ht).1⟩, (wX_out hW ht).2⟩) hW.2.2.1.2.2 hdg hlk
theorem r_vretG (S : CallFix p m c cc nL s args GT own) (hr : meth.sig.returnType = none) (hlk : meth.locks = false) (u : GM) {post : GM → Prop} (hW : wX Z (ids u.1) u.2.1 (cE Z u.2.1 u.1 u.2.2) A0 s H locs) (hp : post u) (hdg : decode cc pc = .ok (.return_, 1)) :
    W p l e R s m args below meth c H locs cells slots (MQ below (va_Qv post (fun (u : GM) t => qG Z A0 u t) A0) args s cells slots A0) (F0 m pc ls []) :=
  W.vret S.1 S.2.1 hr (fun t ht _ => ⟨⟨u, rfl, hp, (wX_out hW ht).1⟩, (wX_out hW ht).2⟩) hW.2.2.1.2.2 hdg hlk
theorem r_callr0 {rb : Nat} (hr : va_Run p l e R s m args below meth c H locs cells slots 0 0 (F0 m pc ls st) rest (va_Qr (fun (_ : Unit) => True) (fun _ a t => a = rb ∧ qB Z L A E (fA L A E H.size) t) (fA L A E H.size) a) (fA L A E H.size)) (hW : wX Z L A E A0 s H locs)
    (kk : ∀ (H1 : Heap) (locs1 : List Loc), wX Z L A E A0 s H1 locs1 → W p l e R s m args below meth c H1 locs1 cells slots Q (F0 m (pc + 3) ls (.ref rb :: rest))) : W p l e R s m args below meth c H locs cells slots Q (F0 m pc ls st) :=
  va_callr hr hW.2.2.1 (fun q _ h => wX_fA hW q h) (wX_fA hW) (fun _ ra t H1 locs1 ht _ _ hB _ _ hS => by
    rw [hB.1]
    exact kk H1 locs1 (wX_back hW ht hB.2 hS))
theorem r_callrG {mc ms : Nat} {rx : Nat × Nat} {post : GM → Prop} (hr : va_Run p l e R s m args below meth c H locs cells slots mc ms (F0 m pc ls st) rest (va_Qr post (fun (u : GM) a t => a = u.2.1 rx ∧ qG Z (fA L A E H.size) u t) (fA L A E H.size) a) (fA L A E H.size)) (hW : wX Z L A E A0 s H locs)
    (kk : ∀ (u : GM) (H1 : Heap) (locs1 : List Loc), post u → wX Z (ids u.1) u.2.1 (cE Z u.2.1 u.1 u.2.2) A0 s H1 locs1 → W p l e R s m args below meth c H1 locs1 (cells + mc) (slots + ms) Q (F0 m (pc + 3) ls (.ref (u.2.1 rx) :: rest))) : W p l e R s m args below meth c H locs cells slots Q (F0 m pc ls st) :=
  va_callr hr hW.2.2.1 (fun q _ h => wX_fA hW q h) (wX_fA hW) (fun u ra t H1 locs1 ht _ hp hB _ _ hS => by
    rw [hB.1]
    exact kk u H1 locs1 hp (wX_back2 (L := L) (A := A) (E := E) (L' := ids u.1) (A' := u.2.1) (E' := cE Z u.2.1 u.1 u.2.2) hW ht hB.2 hS))
theorem r_callvG {mc ms : Nat} {post : GM → Prop} (hr : va_Run p l e R s m args below meth c H locs cells slots mc ms (F0 m pc ls st) rest (va_Qv post (fun (u : GM) t => qG Z (fA L A E H.size) u t) (fA L A E H.size) a) (fA L A E H.size)) (hW : wX Z L A E A0 s H locs)
    (kk : ∀ (u : GM) (H1 : Heap) (locs1 : List Loc), post u → wX Z (ids u.1) u.2.1 (cE Z u.2.1 u.1 u.2.2) A0 s H1 locs1 → W p l e R s m args below meth c H1 locs1 (cells + mc) (slots + ms) Q (F0 m (pc + 3) ls rest)) : W p l e R s m args below meth c H locs cells slots Q (F0 m pc ls st) :=
  va_callv hr hW.2.2.1 (fun q _ h => wX_fA hW q h) (wX_fA hW) (fun u t H1 locs1 ht _ hp hB _ _ hS => kk u H1 locs1 hp (wX_back2 (L := L) (A := A) (E := E) (L' := ids u.1) (A' := u.2.1) (E' := cE Z u.2.1 u.1 u.2.2) hW ht hB hS))
end RW12
theorem va_rf_t {g : Nat → Bool} {f : Nat → Nat} {k : Nat} (h : g k = true) : va_rf ((fun j => if g j then some (f j) else none) k) = .ref (f k) := by
  simp [h, va_rf]
theorem va_rf_f {g : Nat → Bool} {f : Nat → Nat} {k : Nat} (h : g k = false) : va_rf ((fun j => if g j then some (f j) else none) k) = .null := by
  simp [h, va_rf]
theorem eS_up {Z : ZT} {A : Nat × Nat → Nat} {a : Nat → Nat} {g : Nat → Bool} {k : Nat} {μ : CM} (hk : k < 8) : cE Z (aS A a k) (gS g k) (mS0 μ k) (0, 16) = .inl (zR Z, 8, .inr (.inr (.inr (.inr (va_up (fun j => if g j then some (A (j + 3, 0)) else none) k (some (aS A a k (k + 3, 0)))))))) := by
  show Sum.inl (zR Z, 8, Sum.inr (Sum.inr (Sum.inr (Sum.inr (fun j => if gS g k j then some (aS A a k (j + 3, 0)) else none))))) = _
  congr 7
  funext j
  unfold va_up gS
  by_cases e : j = k
  · rw [if_pos e, if_pos e, e]
    rfl
  · rw [if_neg e, if_neg e]
    by_cases h : g j = true
    · rw [if_pos h]
      show _ = if g j = true then some (A (j + 3, 0)) else none
      rw [if_pos h]
      congr 1
      unfold aS
      rw [if_neg (by simp only; omega)]
    · rw [if_neg h]
      show _ = if g j = true then some (A (j + 3, 0)) else none
      rw [if_neg h]
