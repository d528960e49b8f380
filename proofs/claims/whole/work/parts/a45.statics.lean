/-! WHAT STANDS OUTSIDE THE WORLDS -/
def zStat (wd : WDT) : (Nat → Prop) → State → Heap → Prop := fun A U H => WDS wd A U H ∧ XDS A U H ∧ (∀ q ∈ NCL, va_Nc q.1 q.2 U) ∧ ∀ w ∈ NLW, va_Nw w U
section STA
variable {A B : Nat → Prop} {u U : State} {H H1 : Heap}
theorem JST_m (hvm : u.vm.Alike U.vm) (h : JST A u H) : JST A U H := ⟨va_Z.moved hvm h.1, va_Zq.moved hvm h.2⟩
theorem JST_k (h : JST A U H) (hq : ∀ a : Nat, a < H.size → ¬ A a → H1[a]? = H[a]?) : JST A U H1 := ⟨va_Z.kept h.1 hq, va_Zq.kept h.2 hq⟩
theorem JST_n (h : JST A U H) (hAB : ∀ q, B q → A q) : JST B U H := ⟨va_Z.narrow h.1 hAB, va_Zq.narrow h.2 hAB⟩
theorem SO_m {k kv n : Nat} {f : Nat → Int32} (hvm : u.vm.Alike U.vm) (h : SO k kv n f A u H) : SO k kv n f A U H := ⟨va_O.moved hvm h.1, va_OF.moved hvm h.2.1, va_OF.moved hvm h.2.2.1, va_T.moved hvm h.2.2.2⟩
theorem SO_k {k kv n : Nat} {f : Nat → Int32} (h : SO k kv n f A U H) (hq : ∀ a : Nat, a < H.size → ¬ A a → H1[a]? = H[a]?) : SO k kv n f A U H1 := ⟨va_O.kept h.1 hq, va_OF.kept h.2.1 hq, va_OF.kept h.2.2.1 hq, va_T.kept h.2.2.2 hq⟩
theorem SO_n {k kv n : Nat} {f : Nat → Int32} (h : SO k kv n f A U H) (hAB : ∀ q, B q → A q) : SO k kv n f B U H := ⟨va_O.narrow h.1 hAB, va_OF.narrow h.2.1 hAB, va_OF.narrow h.2.2.1 hAB, va_T.narrow h.2.2.2 hAB⟩
theorem WDS_m {wd : WDT} (hvm : u.vm.Alike U.vm) (h : WDS wd A u H) : WDS wd A U H := by
  obtain ⟨h1, h2, h3, h4⟩ := h
  refine ⟨JST_m hvm h1, va_Z.moved hvm h2, va_T.moved hvm h3, fun j hj => ?_⟩
  obtain ⟨a1, a2, a3, a4, a5⟩ := h4 j hj
  exact ⟨va_OF.moved hvm a1, va_OF.moved hvm a2, va_OF.moved hvm a3, SO_m hvm a4, SO_m hvm a5⟩
theorem WDS_k {wd : WDT} (h : WDS wd A U H) (hq : ∀ a : Nat, a < H.size → ¬ A a → H1[a]? = H[a]?) : WDS wd A U H1 := by
  obtain ⟨h1, h2, h3, h4⟩ := h
  refine ⟨JST_k h1 hq, va_Z.kept h2 hq, va_T.kept h3 hq, fun j hj => ?_⟩
  obtain ⟨a1, a2, a3, a4, a5⟩ := h4 j hj
  exact ⟨va_OF.kept a1 hq, va_OF.kept a2 hq, va_OF.kept a3 hq, SO_k a4 hq, SO_k a5 hq⟩
theorem WDS_n {wd : WDT} (h : WDS wd A U H) (hAB : ∀ q, B q → A q) : WDS wd B U H := by
  obtain ⟨h1, h2, h3, h4⟩ := h
  refine ⟨JST_n h1 hAB, va_Z.narrow h2 hAB, va_T.narrow h3 hAB, fun j hj => ?_⟩
  obtain ⟨a1, a2, a3, a4, a5⟩ := h4 j hj
  exact ⟨va_OF.narrow a1 hAB, va_OF.narrow a2 hAB, va_OF.narrow a3 hAB, SO_n a4 hAB, SO_n a5 hAB⟩
theorem NLW_warm {s : State} (hW : s.WarmedH U.vm) {w : Cond} (hw : w ∈ NLW) (h : va_Nw w s) : va_Nw w U := by
  have hn := (List.mem_filter.mp hw).2
  cases w <;> first
    | exact va_Nw.warmF hW h
    | exact va_Nw.warmM hW h
    | exact va_Nw.warmC hW h
    | exact va_Nw.warmD hW h
    | (simp [nestW] at hn)
theorem NLW_same (hv : u.vm = U.vm) {w : Cond} (hw : w ∈ NLW) (h : va_Nw w u) : va_Nw w U := by
  have hn := (List.mem_filter.mp hw).2
  cases w <;> first
    | exact va_Nw.same rfl hv h
    | (simp [nestW] at hn)
end STA
theorem zStat_ok (D : va_G) (i r j d : ClassId) (wd : WDT) : zOK (D, (i, r, j, d), zStat wd) := by
  refine ⟨fun A u U H hW h => ?_, fun A u U H hv h => ?_, fun A U H H1 hq h => ?_, fun A B U H hAB h => ?_, fun A U H h => h.2.2.2⟩
  · obtain ⟨h1, ⟨x1, x2, x3, x4⟩, h3, h4⟩ := h
    exact ⟨WDS_m hW.alike h1, ⟨va_AO.moved hW.alike x1, vx_Zq.moved hW.alike x2, vx_Zq.moved hW.alike x3, fun q hq => by obtain ⟨sa, z⟩ := x4 q hq; exact ⟨sa, vk_R.warm hW z⟩⟩, fun q hq => va_Nc.moved hW.alike (h3 q hq), fun w hw => NLW_warm hW hw (h4 w hw)⟩
  · have hal : u.vm.Alike U.vm := by rw [hv]; exact Vm.Alike.refl _
    obtain ⟨h1, ⟨x1, x2, x3, x4⟩, h3, h4⟩ := h
    exact ⟨WDS_m hal h1, ⟨va_AO.moved hal x1, vx_Zq.moved hal x2, vx_Zq.moved hal x3, fun q hq => by obtain ⟨sa, z⟩ := x4 q hq; exact ⟨sa, vk_R.same hv z⟩⟩, fun q hq => va_Nc.moved hal (h3 q hq), fun w hw => NLW_same hv.symm hw (h4 w hw)⟩
  · obtain ⟨h1, ⟨x1, x2, x3, x4⟩, h3, h4⟩ := h
    exact ⟨WDS_k h1 hq, ⟨x1, vx_Zq.kept x2 hq, vx_Zq.kept x3 hq, x4⟩, h3, h4⟩
  · obtain ⟨h1, ⟨x1, x2, x3, x4⟩, h3, h4⟩ := h
    exact ⟨WDS_n h1 hAB, ⟨x1, vx_Zq.narrow x2 hAB, vx_Zq.narrow x3 hAB, x4⟩, h3, h4⟩
theorem zStat_W (D : va_G) (i r j d : ClassId) (wd : WDT) : ZW (D, (i, r, j, d), zStat wd) wd := fun _ _ _ h => h.1
theorem zStat_X (D : va_G) (i r j d : ClassId) (wd : WDT) : ZX (D, (i, r, j, d), zStat wd) := fun _ _ _ h => h.2.1
theorem zStat_N (D : va_G) (i r j d : ClassId) (wd : WDT) : XNC (D, (i, r, j, d), zStat wd) := fun _ _ _ h => h.2.2.1
