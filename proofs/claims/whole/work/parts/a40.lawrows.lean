/-! THE LAW'S WORLD: the answers' cells, the model, the class -/
theorem wW_perm {Z : ZT} {ws ws2 : va_W} {A0 : Nat → Prop} {s : State} {H : Heap} {locs : List Loc} (h : wW Z ws A0 s H locs) (hp : ws.Perm ws2) : wW Z ws2 A0 s H locs := by
  obtain ⟨h1, h2, h3⟩ := h
  have hin : ∀ q, q ∈ ws2 → q ∈ ws := fun q hq => hp.mem_iff.mpr hq
  have nd : (ws.map Prod.fst).Nodup := by
    unfold List.Nodup
    rw [List.pairwise_iff_getElem]
    intro i j hi hj hij he
    rw [List.getElem_map, List.getElem_map] at he
    rw [List.length_map] at hi hj
    have := h2.1 i j ws[i] ws[j] (List.getElem?_eq_getElem hi) (List.getElem?_eq_getElem hj) he
    omega
  have nd2 : (ws2.map Prod.fst).Nodup := (hp.map Prod.fst).nodup_iff.mp nd
  refine ⟨fun k q hk => ?_, ⟨fun i j p q hi hj he => ?_, fun k q hk => ?_⟩, h3⟩
  · obtain ⟨k2, hk2⟩ := List.getElem?_of_mem (hin q (List.mem_of_getElem? hk))
    exact h1 k2 q hk2
  · have e1 : (ws2.map Prod.fst)[i]? = some p.1 := by rw [List.getElem?_map, hi]; rfl
    have e2 : (ws2.map Prod.fst)[j]? = some q.1 := by rw [List.getElem?_map, hj]; rfl
    rw [he] at e1
    exact (List.getElem?_inj (List.getElem?_eq_some_iff.mp e1).1 nd2).mp (e1.trans e2.symm)
  · obtain ⟨k2, hk2⟩ := List.getElem?_of_mem (hin q (List.mem_of_getElem? hk))
    exact h2.2 k2 q hk2
def mW (Z : ZT) (B : Nat → Nat) (ν : MM) : va_W := cwl mds B (mE Z B ν)
def LW (Z : ZT) (aj ad : Nat) (B : Nat → Nat) (v : GM) (ν : MM) (f : Nat → Int64) (fd : Nat → UInt64) : va_W := [(aj, oJ Z f)] ++ ([(ad, oD Z fd)] ++ (mW Z B ν ++ cW Z v))
section LWS
variable {Z : ZT} {aj ad : Nat} {B : Nat → Nat} {v : GM} {ν : MM} {f : Nat → Int64} {fd : Nat → UInt64} {A0 : Nat → Prop} {s : State} {H : Heap} {locs : List Loc}
theorem pm_J {α : Type} (a b m c : List α) : (a ++ (b ++ (m ++ c))).Perm ((b ++ m) ++ (a ++ c)) := by
  have h1 : a ++ (b ++ (m ++ c)) = (a ++ (b ++ m)) ++ c := by simp [List.append_assoc]
  have h2 : (b ++ m) ++ (a ++ c) = ((b ++ m) ++ a) ++ c := by simp [List.append_assoc]
  rw [h1, h2]
  exact (List.perm_append_comm).append_right c
theorem pm_D {α : Type} (a b m c : List α) : (a ++ (b ++ (m ++ c))).Perm ((a ++ m) ++ (b ++ c)) := by
  have h1 : a ++ (b ++ (m ++ c)) = a ++ ((b ++ m) ++ c) := by simp [List.append_assoc]
  have h2 : (a ++ m) ++ (b ++ c) = a ++ ((m ++ b) ++ c) := by simp [List.append_assoc]
  rw [h1, h2]
  exact ((List.perm_append_comm).append_right c).append_left a
theorem pm_C {α : Type} (a b m c : List α) : (a ++ (b ++ (m ++ c))).Perm ((a ++ (b ++ m)) ++ c) := by
  have h1 : a ++ (b ++ (m ++ c)) = (a ++ (b ++ m)) ++ c := by simp [List.append_assoc]
  rw [h1]
theorem pm_M {α : Type} (a b m c : List α) : (a ++ (b ++ (m ++ c))).Perm ((a ++ (b ++ c)) ++ m) := by
  have h1 : a ++ (b ++ (m ++ c)) = (a ++ b) ++ (m ++ c) := by simp [List.append_assoc]
  have h2 : (a ++ (b ++ c)) ++ m = (a ++ b) ++ (c ++ m) := by simp [List.append_assoc]
  rw [h1, h2]
  exact (List.perm_append_comm).append_left (a ++ b)
end LWS
section RW30
variable {p : Program} {l : Launch} {e : Env} {R : Room} {s : State} {m : MethodId} {args : Array Value} {below : List Frame} {meth : Method} {c : Code} {H : Heap} {locs : List Loc} {cells slots : Nat} {Q : State → Prop}
variable {Z : ZT} {A0 : Nat → Prop} {cc : ByteArray} {nL pc index : Nat} {own C : String} {ls : Array Slot} {rest st : List Value} {aj ad : Nat} {B : Nat → Nat} {v : GM} {ν : MM} {f : Nat → Int64} {fd : Nat → UInt64}
variable {y : MethodName} {bytes : ByteArray} {maxL d n : Nat} {ret : Option FieldType} {hh : List (Nat × Nat × Nat × Nat)}
/-- the link of a wrapper's call -/
def lkW (own : String) (index : Nat) (y : MethodName) (bytes : ByteArray) (maxL : Nat) (hh : List (Nat × Nat × Nat × Nat)) (n : Nat) : Prop :=
  Cond.methodLink own index y ∈ GT ∧ Cond.static y ∈ GT ∧ Cond.initialized y.cls ∈ GT ∧ Cond.codeWith y bytes maxL (some .int) hh ∈ GT ∧ lkD y n
theorem l_sw {wr : va_W} {ao : Nat} {O : Type} {oc : O → va_E} {fo : O} (hZ : zOK Z) (S : CallFix p m c cc nL s args GT own) (hW : wW Z (wr ++ uW Z ao (oc fo) v) A0 s H locs) {As : List Value} {post : Int32 → GM × O → Prop} (hM : XW l y bytes maxL hh As Z ao oc fo v H.size post) (lk : lkW own index y bytes maxL hh n)
    (hl : ls.size = nL) (hn : As.length = n) (hst : st = As.reverse ++ rest) (hr : (rest.map fun v => v.category).sum ≤ 8) (hR : okR R 8 maxL) (hf : cells + 15 ≤ R.cells ∧ slots + 1376 ≤ R.slots) (hdg : decode cc pc = .ok (.invokestatic index, 3))
    (kk : ∀ (r : Int32) (u : GM × O) (H1 : Heap) (locs1 : List Loc), post r u → wW Z (wr ++ uW Z ao (oc u.2) u.1) A0 s H1 locs1 → W p l e R s m args below meth c H1 locs1 (cells + 15) (slots + 1376) Q (F0 m (pc + 3) ls (.int r :: rest))) : W p l e R s m args below meth c H locs cells slots Q (F0 m pc ls st) := by
  obtain ⟨k1, k2, k3, k4, k5⟩ := lk
  have hin : ∀ w ∈ va_wsS own index y (Cond.codeWith y bytes maxL (some .int) hh :: GT), w ∈ GT := fun w hw => by
    unfold va_wsS at hw
    rcases List.mem_append.mp hw with h | h
    · simp only [List.mem_cons, List.not_mem_nil, or_false] at h
      rcases h with h | h | h <;> rw [h] <;> assumption
    · rcases List.mem_cons.mp h with h | h
      · rw [h]; exact k4
      · exact h
  have cw : vx_CSW R s args own index y bytes maxL (some .int) hh (Cond.codeWith y bytes maxL (some .int) hh :: GT) (rmD 8 15 1376) 15 1376 n := vx_cwSW n S.2.2.2.2 (fun w hw => ⟨hin w hw, GT_good (hin w hw)⟩) rfl rfl rfl k5 hR
  exact va_calli (vx_runSW S hM cw ⟨pW_blind hZ, fun U hU hw => ⟨rfl, wW_pre hZ hW hU hw⟩⟩ rfl hn hl hst (lv_room hr) hdg hf) hW.2.2.1 (fun q _ h => wW_fA hW q h) (wW_fA hW) (fun r u t H1 locs1 ht _ hp hB _ hk hS => kk r u H1 locs1 hp (wW_back hW ht hB hk hS))
theorem l_J (hZ : zOK Z) (S : CallFix p m c cc nL s args GT own) (hU : wW Z (LW Z aj ad B v ν f fd) A0 s H locs) {As : List Value} {post : Int32 → GM × (Nat → Int64) → Prop} (hM : XW l y bytes maxL hh As Z aj (oJ Z) f v H.size post) (lk : lkW own index y bytes maxL hh n)
    (hl : ls.size = nL) (hn : As.length = n) (hst : st = As.reverse ++ rest) (hr : (rest.map fun v => v.category).sum ≤ 8) (hR : okR R 8 maxL) (hf : cells + 15 ≤ R.cells ∧ slots + 1376 ≤ R.slots) (hdg : decode cc pc = .ok (.invokestatic index, 3))
    (kk : ∀ (r : Int32) (u : GM × (Nat → Int64)) (H1 : Heap) (locs1 : List Loc), post r u → wW Z (LW Z aj ad B u.1 ν u.2 fd) A0 s H1 locs1 → W p l e R s m args below meth c H1 locs1 (cells + 15) (slots + 1376) Q (F0 m (pc + 3) ls (.int r :: rest))) : W p l e R s m args below meth c H locs cells slots Q (F0 m pc ls st) :=
  l_sw (wr := [(ad, oD Z fd)] ++ mW Z B ν) hZ S (wW_perm hU (pm_J _ _ _ _)) hM lk hl hn hst hr hR hf hdg (fun r u H1 locs1 hp hW => kk r u H1 locs1 hp (wW_perm hW (pm_J _ _ _ _).symm))
theorem l_D (hZ : zOK Z) (S : CallFix p m c cc nL s args GT own) (hU : wW Z (LW Z aj ad B v ν f fd) A0 s H locs) {As : List Value} {post : Int32 → GM × (Nat → UInt64) → Prop} (hM : XW l y bytes maxL hh As Z ad (oD Z) fd v H.size post) (lk : lkW own index y bytes maxL hh n)
    (hl : ls.size = nL) (hn : As.length = n) (hst : st = As.reverse ++ rest) (hr : (rest.map fun v => v.category).sum ≤ 8) (hR : okR R 8 maxL) (hf : cells + 15 ≤ R.cells ∧ slots + 1376 ≤ R.slots) (hdg : decode cc pc = .ok (.invokestatic index, 3))
    (kk : ∀ (r : Int32) (u : GM × (Nat → UInt64)) (H1 : Heap) (locs1 : List Loc), post r u → wW Z (LW Z aj ad B u.1 ν f u.2) A0 s H1 locs1 → W p l e R s m args below meth c H1 locs1 (cells + 15) (slots + 1376) Q (F0 m (pc + 3) ls (.int r :: rest))) : W p l e R s m args below meth c H locs cells slots Q (F0 m pc ls st) :=
  l_sw (wr := [(aj, oJ Z f)] ++ mW Z B ν) hZ S (wW_perm hU (pm_D _ _ _ _)) hM lk hl hn hst hr hR hf hdg (fun r u H1 locs1 hp hW => kk r u H1 locs1 hp (wW_perm hW (pm_D _ _ _ _).symm))
/-- a direct call of the class -/
theorem l_C {mc ms : Nat} (hZ : zOK Z) (S : CallFix p m c cc nL s args GT own) (hU : wW Z (LW Z aj ad B v ν f fd) A0 s H locs) {As : List Value} {post : Int32 → GM → Prop} {px : Nat → GM → Prop} (hpx : ∀ k u, ¬ px k u) {bx : Nat} (hM : XVi l y bytes maxL ret d mc ms (.ref bx :: As) Z (ids v.1) v.2.1 (cE Z v.2.1 v.1 v.2.2) H.size post px) (lk : lkV own C index y bytes maxL ret n)
    (hrecv : ∃ cell : Cell, H[bx]? = some cell ∧ cell.vm.isStatics = false ∧ s.vm.findClass C = some cell.cls) (hl : ls.size = nL) (hn : As.length = n) (hst : st = As.reverse ++ .ref bx :: rest) (hr : (rest.map fun v => v.category).sum ≤ 8) (hR : okR R d maxL) (hf : cells + mc ≤ R.cells ∧ slots + ms ≤ R.slots) (hdg : decode cc pc = .ok (.invokevirtual index, 3))
    (kk : ∀ (r : Int32) (u : GM) (H1 : Heap) (locs1 : List Loc), post r u → wW Z (LW Z aj ad B u ν f fd) A0 s H1 locs1 → W p l e R s m args below meth c H1 locs1 (cells + mc) (slots + ms) Q (F0 m (pc + 3) ls (.int r :: rest))) : W p l e R s m args below meth c H locs cells slots Q (F0 m pc ls st) :=
  u_calli (wr := [(aj, oJ Z f)] ++ ([(ad, oD Z fd)] ++ mW Z B ν)) hZ S (wW_perm hU (pm_C _ _ _ _)) hM lk hrecv hl hn hst hr hR hf hdg (fun k u _ _ _ _ hp _ _ _ _ => absurd hp (hpx k u)) (fun r u H1 locs1 hp hW => kk r u H1 locs1 hp (wW_perm hW (pm_C _ _ _ _).symm))
theorem l_Mi (hZ : zOK Z) (S : CallFix p m c cc nL s args GT own) (hU : wW Z (LW Z aj ad B v ν f fd) A0 s H locs) {As : List Value} {post : Int32 → MM → Prop} {bx : Nat} (hM : XMi l y bytes maxL ret d (.ref bx :: As) Z mds B (mE Z B) ν H.size post) (lk : lkV own C index y bytes maxL ret n)
    (hrecv : ∃ cell : Cell, H[bx]? = some cell ∧ cell.vm.isStatics = false ∧ s.vm.findClass C = some cell.cls) (hl : ls.size = nL) (hn : As.length = n) (hst : st = As.reverse ++ .ref bx :: rest) (hr : (rest.map fun v => v.category).sum ≤ 8) (hR : okR R d maxL) (hf : cells + 0 ≤ R.cells ∧ slots + 0 ≤ R.slots) (hdg : decode cc pc = .ok (.invokevirtual index, 3))
    (kk : ∀ (r : Int32) (u : MM) (H1 : Heap) (locs1 : List Loc), post r u → wW Z (LW Z aj ad B v u f fd) A0 s H1 locs1 → W p l e R s m args below meth c H1 locs1 cells slots Q (F0 m (pc + 3) ls (.int r :: rest))) : W p l e R s m args below meth c H locs cells slots Q (F0 m pc ls st) := by
  have hW := wW_perm hU (pm_M _ _ _ _)
  have hX : wX Z mds B (mE Z B ν) A0 s H locs := wW_r hW
  exact va_calli (r_runV hZ S hX hM lk hrecv hl hn hst hr hR hf hdg) hW.2.2.1 (fun q _ h => wW_fA hW q h) (wW_fA hW) (fun r u t H1 locs1 ht _ hp hB _ hk hS => kk r u H1 locs1 hp (wW_perm (wW_back (w1 := mW Z B u) hW ht hB hk hS) (pm_M _ _ _ _).symm))
theorem l_Ml (hZ : zOK Z) (S : CallFix p m c cc nL s args GT own) (hU : wW Z (LW Z aj ad B v ν f fd) A0 s H locs) {As : List Value} {post : Int64 → MM → Prop} {bx : Nat} (hM : XMl l y bytes maxL ret d (.ref bx :: As) Z mds B (mE Z B) ν H.size post) (lk : lkV own C index y bytes maxL ret n)
    (hrecv : ∃ cell : Cell, H[bx]? = some cell ∧ cell.vm.isStatics = false ∧ s.vm.findClass C = some cell.cls) (hl : ls.size = nL) (hn : As.length = n) (hst : st = As.reverse ++ .ref bx :: rest) (hr : (rest.map fun v => v.category).sum ≤ 8) (hR : okR R d maxL) (hf : cells + 0 ≤ R.cells ∧ slots + 0 ≤ R.slots) (hdg : decode cc pc = .ok (.invokevirtual index, 3))
    (kk : ∀ (r : Int64) (u : MM) (H1 : Heap) (locs1 : List Loc), post r u → wW Z (LW Z aj ad B v u f fd) A0 s H1 locs1 → W p l e R s m args below meth c H1 locs1 cells slots Q (F0 m (pc + 3) ls (.long r :: rest))) : W p l e R s m args below meth c H locs cells slots Q (F0 m pc ls st) := by
  have hW := wW_perm hU (pm_M _ _ _ _)
  have hX : wX Z mds B (mE Z B ν) A0 s H locs := wW_r hW
  exact va_calll (r_runV hZ S hX hM lk hrecv hl hn hst hr hR hf hdg) hW.2.2.1 (fun q _ h => wW_fA hW q h) (wW_fA hW) (fun r u t H1 locs1 ht _ hp hB _ hk hS => kk r u H1 locs1 hp (wW_perm (wW_back (w1 := mW Z B u) hW ht hB hk hS) (pm_M _ _ _ _).symm))
theorem l_Md (hZ : zOK Z) (S : CallFix p m c cc nL s args GT own) (hU : wW Z (LW Z aj ad B v ν f fd) A0 s H locs) {As : List Value} {post : UInt64 → MM → Prop} {bx : Nat} (hM : XMd l y bytes maxL ret d (.ref bx :: As) Z mds B (mE Z B) ν H.size post) (lk : lkV own C index y bytes maxL ret n)
    (hrecv : ∃ cell : Cell, H[bx]? = some cell ∧ cell.vm.isStatics = false ∧ s.vm.findClass C = some cell.cls) (hl : ls.size = nL) (hn : As.length = n) (hst : st = As.reverse ++ .ref bx :: rest) (hr : (rest.map fun v => v.category).sum ≤ 8) (hR : okR R d maxL) (hf : cells + 0 ≤ R.cells ∧ slots + 0 ≤ R.slots) (hdg : decode cc pc = .ok (.invokevirtual index, 3))
    (kk : ∀ (r : UInt64) (u : MM) (H1 : Heap) (locs1 : List Loc), post r u → wW Z (LW Z aj ad B v u f fd) A0 s H1 locs1 → W p l e R s m args below meth c H1 locs1 cells slots Q (F0 m (pc + 3) ls (.double r :: rest))) : W p l e R s m args below meth c H locs cells slots Q (F0 m pc ls st) := by
  have hW := wW_perm hU (pm_M _ _ _ _)
  have hX : wX Z mds B (mE Z B ν) A0 s H locs := wW_r hW
  exact va_calld (r_runV hZ S hX hM lk hrecv hl hn hst hr hR hf hdg) hW.2.2.1 (fun q _ h => wW_fA hW q h) (wW_fA hW) (fun r u t H1 locs1 ht _ hp hB _ hk hS => kk r u H1 locs1 hp (wW_perm (wW_back (w1 := mW Z B u) hW ht hB hk hS) (pm_M _ _ _ _).symm))
theorem l_Mf (hZ : zOK Z) (S : CallFix p m c cc nL s args GT own) (hU : wW Z (LW Z aj ad B v ν f fd) A0 s H locs) {As : List Value} {post : UInt32 → MM → Prop} {bx : Nat} (hM : XMf l y bytes maxL ret d (.ref bx :: As) Z mds B (mE Z B) ν H.size post) (lk : lkV own C index y bytes maxL ret n)
    (hrecv : ∃ cell : Cell, H[bx]? = some cell ∧ cell.vm.isStatics = false ∧ s.vm.findClass C = some cell.cls) (hl : ls.size = nL) (hn : As.length = n) (hst : st = As.reverse ++ .ref bx :: rest) (hr : (rest.map fun v => v.category).sum ≤ 8) (hR : okR R d maxL) (hf : cells + 0 ≤ R.cells ∧ slots + 0 ≤ R.slots) (hdg : decode cc pc = .ok (.invokevirtual index, 3))
    (kk : ∀ (r : UInt32) (u : MM) (H1 : Heap) (locs1 : List Loc), post r u → wW Z (LW Z aj ad B v u f fd) A0 s H1 locs1 → W p l e R s m args below meth c H1 locs1 cells slots Q (F0 m (pc + 3) ls (.float r :: rest))) : W p l e R s m args below meth c H locs cells slots Q (F0 m pc ls st) := by
  have hW := wW_perm hU (pm_M _ _ _ _)
  have hX : wX Z mds B (mE Z B ν) A0 s H locs := wW_r hW
  exact va_callf (r_runV hZ S hX hM lk hrecv hl hn hst hr hR hf hdg) hW.2.2.1 (fun q _ h => wW_fA hW q h) (wW_fA hW) (fun r u t H1 locs1 ht _ hp hB _ hk hS => kk r u H1 locs1 hp (wW_perm (wW_back (w1 := mW Z B u) hW ht hB hk hS) (pm_M _ _ _ _).symm))
theorem l_T (hZ : zOK Z) (S : CallFix p m c cc nL s args GT own) (hU : wW Z (LW Z aj ad B v ν f fd) A0 s H locs) {As : List Value} {post : Int32 → Prop} {bx : Nat} (hM : XCi l y bytes maxL ret d (.ref bx :: As) Z mds B (mE Z B ν) H.size post) (lk : lkV own C index y bytes maxL ret n)
    (hrecv : ∃ cell : Cell, H[bx]? = some cell ∧ cell.vm.isStatics = false ∧ s.vm.findClass C = some cell.cls) (hl : ls.size = nL) (hn : As.length = n) (hst : st = As.reverse ++ .ref bx :: rest) (hr : (rest.map fun v => v.category).sum ≤ 8) (hR : okR R d maxL) (hf : cells + 0 ≤ R.cells ∧ slots + 0 ≤ R.slots) (hdg : decode cc pc = .ok (.invokevirtual index, 3))
    (kk : ∀ (r : Int32) (H1 : Heap) (locs1 : List Loc), post r → wW Z (LW Z aj ad B v ν f fd) A0 s H1 locs1 → W p l e R s m args below meth c H1 locs1 cells slots Q (F0 m (pc + 3) ls (.int r :: rest))) : W p l e R s m args below meth c H locs cells slots Q (F0 m pc ls st) := by
  have hW := wW_perm hU (pm_M _ _ _ _)
  have hX : wX Z mds B (mE Z B ν) A0 s H locs := wW_r hW
  exact va_calli (r_runV hZ S hX hM lk hrecv hl hn hst hr hR hf hdg) hW.2.2.1 (fun q _ h => wW_fA hW q h) (wW_fA hW) (fun r u t H1 locs1 ht _ hp hB _ hk hS => kk r H1 locs1 hp (wW_perm (wW_back (w1 := mW Z B ν) hW ht hB hk hS) (pm_M _ _ _ _).symm))
theorem l_jld (S : CallFix p m c cc nL s args GT own) (hU : wW Z (LW Z aj ad B v ν f fd) A0 s H locs) (hdg : decode cc pc = .ok (.laload, 1))
    (kk : W p l e R s m args below meth c H locs cells slots Q (F0 m (pc + 1) ls (.long (f 0) :: rest))) : W p l e R s m args below meth c H locs cells slots Q (F0 m pc ls (.int (nI 0) :: .ref aj :: rest)) := by
  obtain ⟨h1, h2, h3, h4, h5, h6⟩ := hU
  exact va_lald S.1 S.2.1 h4 h1 0 2 rfl rfl (vp_in_nI (by decide) (by decide)) hdg (by rw [nI_clamp (by decide)]; exact kk)
theorem l_dld (S : CallFix p m c cc nL s args GT own) (hU : wW Z (LW Z aj ad B v ν f fd) A0 s H locs) (hdg : decode cc pc = .ok (.daload, 1))
    (kk : W p l e R s m args below meth c H locs cells slots Q (F0 m (pc + 1) ls (.double (fd 0) :: rest))) : W p l e R s m args below meth c H locs cells slots Q (F0 m pc ls (.int (nI 0) :: .ref ad :: rest)) := by
  obtain ⟨h1, h2, h3, h4, h5, h6⟩ := hU
  exact va_dald S.1 S.2.1 h4 h1 1 3 rfl rfl (vp_in_nI (by decide) (by decide)) hdg (by rw [nI_clamp (by decide)]; exact kk)
theorem l_sc {b L : Nat} {xs : Nat → Int32} (S : CallFix p m c cc nL s args GT own) (hU : wW Z (LW Z aj ad B v ν f fd) A0 s H locs) (hX : va_X b L xs s s.heap) (hbl : b < s.heap.size) (hbA : ¬ A0 b) {j : Nat} (hj : j < L) (hL : L < 2 ^ 31) (hdg : decode cc pc = .ok (.iaload, 1))
    (kk : W p l e R s m args below meth c H locs cells slots Q (F0 m (pc + 1) ls (.int (xs j) :: rest))) : W p l e R s m args below meth c H locs cells slots Q (F0 m pc ls (.int (nI j) :: .ref b :: rest)) := by
  refine va_sld S.1 S.2.1 hX hbl hbA hU.2.2.1 (vp_in_nI hj hL) hdg ?_
  rw [nI_clamp (by omega)]
  exact kk
/-- the class's object, the model's -/
theorem l_rc (hU : wW Z (LW Z aj ad B v ν f fd) A0 s H locs) : ∃ cell : Cell, H[v.2.1 (0, 14)]? = some cell ∧ cell.vm.isStatics = false ∧ s.vm.findClass RX9 = some cell.cls :=
  r_recv (u_X (wr := [(aj, oJ Z f)] ++ ([(ad, oD Z fd)] ++ mW Z B ν)) (wW_perm hU (pm_C _ _ _ _))) (x := (0, 14)) (in_r (by decide) (by decide)) rfl rfl
theorem l_rm (hU : wW Z (LW Z aj ad B v ν f fd) A0 s H locs) : ∃ cell : Cell, H[B 0]? = some cell ∧ cell.vm.isStatics = false ∧ s.vm.findClass RX10 = some cell.cls :=
  r_recv (show wX Z mds B (mE Z B ν) A0 s H locs from wW_r (wW_perm hU (pm_M _ _ _ _))) (x := 0) (List.mem_range.mpr (by decide)) rfl rfl
end RW30
theorem lgc_self (x : Int64) : lg_cmp x x = 0 := by
  unfold lg_cmp
  simp
