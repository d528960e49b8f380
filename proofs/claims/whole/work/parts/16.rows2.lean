/-! the JDK's numbers, and methods of the JDK -/
def iabs (x : Int32) : Int32 := if x < 0 then -x else x
def imax (x y : Int32) : Int32 := if x < y then y else x
def imin (x y : Int32) : Int32 := if x ≤ y then x else y
theorem w_abs : Cond.code Lib.Math.abs.name Lib.Math.abs.code 1 (some .int) ∈ GT := GT_at (i := 469) (by decide +kernel) rfl
theorem w_min : Cond.code Lib.Math.min.name Lib.Math.min.code 2 (some .int) ∈ GT := GT_at (i := 367) (by decide +kernel) rfl
theorem w_max : Cond.code Lib.Math.max.name Lib.Math.max.code 2 (some .int) ∈ GT := GT_at (i := 370) (by decide +kernel) rfl
section RW6
variable {p : Program} {l : Launch} {e : Env} {R : Room} {s : State} {m : MethodId} {args : Array Value} {below : List Frame} {meth : Method} {c : Code} {H : Heap} {locs : List Loc} {cells slots : Nat} {Q : State → Prop}
variable {α : Type} {Z : ZT} {L : List α} {A : α → Nat} {E : α → va_E} {cc : ByteArray} {nL pc index : Nat} {own : String} {ls : Array Slot} {rest st : List Value}
theorem r_abs (S : CallFix p m c cc nL s args GT own) (hl : ls.size = nL) (hlink : Cond.methodLink own index Lib.Math.abs.name ∈ GT) (hstat : Cond.static Lib.Math.abs.name ∈ GT) (hf : 1 ≤ R.frames) (hlo : (rest.map fun v => v.category).sum + 13 ≤ R.locals) (hc : cells ≤ R.cells) (hs : slots ≤ R.slots) {x : Int32} (hdg : decode cc pc = .ok (.invokestatic index, 3))
    (kk : W p l e R s m args below meth c H locs cells slots Q (F0 m (pc + 3) ls (.int (iabs x) :: rest))) : W p l e R s m args below meth c H locs cells slots Q (F0 m pc ls (.int x :: rest)) := by
  obtain ⟨hx, hb, hml, ho, hts⟩ := S
  refine va_mabs hx hb (hml.trans hl.symm) ho (hts _ hlink) (hts _ hstat) (hts _ g_85) (hts _ w_abs) hf hlo hc hs hdg ?_
  rw [show (if 0 ≤ x then x else 0 - x) = iabs x by
    unfold iabs
    by_cases h : 0 ≤ x
    · rw [if_pos h, if_neg (I_nlt.mpr h)]
    · rw [if_neg h, if_pos (I_nle.mp h)]
      simp]
  exact kk
theorem r_max (S : CallFix p m c cc nL s args GT own) (hl : ls.size = nL) (hlink : Cond.methodLink own index Lib.Math.max.name ∈ GT) (hstat : Cond.static Lib.Math.max.name ∈ GT) (hf : 1 ≤ R.frames) (hlo : (rest.map fun v => v.category).sum + 13 ≤ R.locals) (hc : cells ≤ R.cells) (hs : slots ≤ R.slots) {x y : Int32} (hdg : decode cc pc = .ok (.invokestatic index, 3))
    (kk : W p l e R s m args below meth c H locs cells slots Q (F0 m (pc + 3) ls (.int (imax x y) :: rest))) : W p l e R s m args below meth c H locs cells slots Q (F0 m pc ls (.int y :: .int x :: rest)) := by
  obtain ⟨hx, hb, hml, ho, hts⟩ := S
  exact va_mmax hx hb (hml.trans hl.symm) ho (hts _ hlink) (hts _ hstat) (hts _ g_85) (hts _ w_max) hf hlo hc hs hdg kk
theorem r_min (S : CallFix p m c cc nL s args GT own) (hl : ls.size = nL) (hlink : Cond.methodLink own index Lib.Math.min.name ∈ GT) (hstat : Cond.static Lib.Math.min.name ∈ GT) (hf : 1 ≤ R.frames) (hlo : (rest.map fun v => v.category).sum + 13 ≤ R.locals) (hc : cells ≤ R.cells) (hs : slots ≤ R.slots) {x y : Int32} (hdg : decode cc pc = .ok (.invokestatic index, 3))
    (kk : W p l e R s m args below meth c H locs cells slots Q (F0 m (pc + 3) ls (.int (imin x y) :: rest))) : W p l e R s m args below meth c H locs cells slots Q (F0 m pc ls (.int y :: .int x :: rest)) := by
  obtain ⟨hx, hb, hml, ho, hts⟩ := S
  refine va_mmin hx hb (hml.trans hl.symm) ho (hts _ hlink) (hts _ hstat) (hts _ g_85) (hts _ w_min) hf hlo hc hs hdg ?_
  first
    | exact kk
    | (rw [show (if y < x then y else x) = imin x y by
        unfold imin
        by_cases h : x ≤ y
        · rw [if_pos h, if_neg (I_nlt.mpr h)]
        · rw [if_neg h, if_pos (I_nle.mp h)]]; exact kk)
theorem r_metF {y : MethodName} {maxL d mc ms sz : Nat} {ret : Option FieldType} {As : List Value} {Qc : Array Value → State → Outcome → State → Prop} (hy : plainFor y = true) (hsl : (lg_sl As).length ≤ maxL)
    (body : ∀ (p : Program) (e : Env) (s : State) (m : MethodId) (below : List Frame) (meth : Method) (c : Code) (ls : Array Slot), CallFix p m c cc maxL s As.toArray GT y.cls → meth.sig.returnType = ret → meth.locks = false → meth.name = y.name → s.heap.size = sz → wX Z L A E (fA L A E sz) s s.heap [] → lv_has ls maxL (lv_args 0 As) →
      W p l e (rmD d mc ms) s m As.toArray below meth c s.heap [] 0 0 (MQ below Qc As.toArray s mc ms (fA L A E sz)) (F0 m 0 ls [])) :
    Met l y (Cond.code y cc maxL ret :: GT) (rmD d mc ms) (va_Pc As (pB Z L A E sz)) Qc mc ms (fA L A E sz) := by
  refine va_MetF (cc := cc) (maxL := maxL) (ret := ret) hy rfl ?_
  intro p e s m args below meth c s₁ B hml hv
  obtain ⟨rfl, hv⟩ := hv
  have hts := atoms_spec (ws := Cond.code y cc maxL ret :: GT) B.pre
  have hl := lv_entry As (n := maxL) hsl
  rw [lg_entry_eq]
  exact body p e s m below meth c _ ⟨B.exec, B.bytes, hml, findClass_of_methodNamed B.named, fun w h => hts w (List.mem_cons_of_mem _ h)⟩ B.returns B.notSynchronized (name_of_methodNamed B.named B.method).1 hv.1 (wX_in hv) hl
/-- a row of ints is copied whole -/
theorem r_copy (S : CallFix p m c cc nL s args GT own) (hls : ls.size = nL) (hlink : Cond.methodLink own index arraycopyName ∈ GT) {g : Nat → Bool} {A : Nat × Nat → Nat} {μ : CM} {A0 : Nat → Prop} (hW : wX Z (ids g) A (cE Z A g μ) A0 s H locs) {b o b2 o2 n n2 : Nat} (h1 : aLen o = some n) (h2 : aLen o2 = some n2) (hn : n ≤ n2) (i1 : (b, o) ∈ ids g) (i2 : (b2, o2) ∈ ids g) (hf : 1 ≤ R.frames) (hlo : (rest.map fun v => v.category).sum + (nativeFrameWords "java/lang/System" "arraycopy" 5 + 11) ≤ R.locals) (hdg : decode cc pc = .ok (.invokestatic index, 3))
    (kk : ∀ (H1 : Heap) (locs1 : List Loc), wX Z (ids g) A (cE Z A g (up2 μ b2 o2 (fun k => if k < n then μ b o k else μ b2 o2 k))) A0 s H1 locs1 → W p l e R s m args below meth c H1 locs1 cells slots Q (F0 m (pc + 3) ls rest)) : W p l e R s m args below meth c H locs cells slots Q (F0 m pc ls (.int (nI n) :: .int (nI 0) :: .ref (A (b2, o2)) :: .int (nI 0) :: .ref (A (b, o)) :: rest)) := by
  obtain ⟨w1, w2, w3, w4, w5, w6⟩ := hW
  obtain ⟨hx, hb, hml, ho, hts⟩ := S
  obtain ⟨q0, hq0⟩ := List.getElem?_of_mem i1
  obtain ⟨q1, hq1⟩ := List.getElem?_of_mem i2
  have e0 := cwl_at (A := A) (E := cE Z A g μ) hq0
  have e1 := cwl_at (A := A) (E := cE Z A g μ) hq1
  rw [cE_arr h1] at e0
  rw [cE_arr h2] at e1
  have hlt := aLen_lt h1
  have z0 : (nI 0).toNatClampNeg = 0 := nI_clamp (by omega)
  have zn : (nI n).toNatClampNeg = n := nI_clamp hlt
  refine va_copyi hx hb (hml.trans hls.symm) ho (hts _ hlink) (hts _ g_453) (hts _ g_452) (hts _ g_84) w4 w1 w2 w3 q0 q1 0 0 e0 e1 rfl rfl rfl (sp := nI 0) (dp := nI 0) (n := nI n) (nI_pos (by omega)) (nI_pos (by omega)) (nI_pos hlt) (by rw [z0, zn]; omega) (by rw [z0, zn]; omega) (fun i _ => rfl) hf hlo hdg (fun H1 locs1 k1 k2 k3 => ?_)
  refine kk H1 locs1 ?_
  rw [cwl_set w2 hq1 (E' := cE Z A g (up2 μ b2 o2 (fun k => if k < n then μ b o k else μ b2 o2 k))) ?_ (fun y hy => cE_up y hy)] at k1
  · exact ⟨k1, cwl_D w2, k3, w4, w5, w6⟩
  · rw [cE_upA h2, z0, zn]
    rw [show (fun k => if k < n then μ b o k else μ b2 o2 k) = va_cpy (μ b o) (μ b2 o2) 0 0 n from by
      funext k
      simp [va_cpy]]
end RW6
theorem ne_toInt {x : Int32} {k : Nat} (h : ¬ x = nI k) (hk : k < 2 ^ 31) : x.toInt ≠ (k : Int) := fun z => h (Int32.toInt_inj.mp (by rw [z, nI_toInt hk]))
section RW7
variable {p : Program} {l : Launch} {e : Env} {R : Room} {s : State} {m : MethodId} {args : Array Value} {below : List Frame} {meth : Method} {c : Code} {H : Heap} {locs : List Loc} {cells slots : Nat} {Q : State → Prop}
variable {cc : ByteArray} {nL pc : Nat} {own : String} {ls : Array Slot} {rest : List Value}
/-- a switch at none of its cases -/
theorem r_swD (S : CallFix p m c cc nL s args GT own) {dflt lo hi : Int} {offs : Array Int} {len : Nat} {x : Int32} {tgt : Nat} (hdg : decode cc pc = .ok (.tableswitch dflt lo hi offs, len)) (cs : List Nat) (hx : ∀ k ∈ cs, x.toInt ≠ (k : Int)) (ht : ∀ i : Nat, i < offs.size → offs[i]? = some dflt ∨ ∃ k ∈ cs, (k : Int) = lo + i) (hsz : hi - lo < offs.size) (hg : (pc : Int) + dflt = (tgt : Int))
    (kk : W p l e R s m args below meth c H locs cells slots Q (F0 m tgt ls rest)) : W p l e R s m args below meth c H locs cells slots Q (F0 m pc ls (.int x :: rest)) := by
  by_cases h1 : x.toInt < lo
  · exact lv_tableOut S.1 S.2.1 hdg (Or.inl h1) hg kk
  · by_cases h2 : hi < x.toInt
    · exact lv_tableOut S.1 S.2.1 hdg (Or.inr h2) hg kk
    · have hi' : (x.toInt - lo).toNat < offs.size := by omega
      rcases ht _ hi' with h3 | ⟨k, hk, h3⟩
      · exact lv_tableIn S.1 S.2.1 hdg h1 h2 h3 hg kk
      · exact absurd (by omega) (hx k hk)
end RW7
