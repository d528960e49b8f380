/-! METHODS THAT MAY THROW -/
def exC : Nat → String
  | 1 => "java/lang/IndexOutOfBoundsException"
  | 2 => "java/lang/IllegalArgumentException"
  | 3 => "java/lang/IllegalStateException"
  | 4 => "java/util/NoSuchElementException"
  | _ => "java/lang/ArithmeticException"
def STRS : List (Nat × String) := [(349, "there is no such song, tank or position"), (351, "a parameter is out of range"), (353, "there is no more room"), (355, "there is no such sample, note or frame"), (172, "neither song has such a sample"), (249, "there is no such rank"), (279, "the text is not a command text"), (294, "a command fails"), (300, "no error position was set"), (302, "no command has failed"), (316, "there is no such index"), (324, "the song has no notes"), (331, "there are no tanks"), (341, "there is no change to undo"), (346, "there is no snapshot")]
def XDS (A : Nat → Prop) (U : State) (H : Heap) : Prop := va_AO "SongRefinery$State" U ∧ vx_Zq Bundle.tN "UNASSIGNED_STACK" Bundle.steD A U H ∧ vx_Zq Bundle.tN "SUPPRESSED_SENTINEL" Bundle.listD A U H ∧ ∀ q ∈ STRS, ∃ sa, vk_R RX9 q.1 q.2 sa U
/-- what throwing rests on -/
def ZX (Z : ZT) : Prop := ∀ (A : Nat → Prop) (U : State) (H : Heap), zS Z A U H → XDS A U H
theorem nest_args {w : Cond} {args : Array Value} {s : State} (h : nestW w = true) (hn : va_Nw w s) : w.before args s = true := by
  cases w <;> first | (simp [nestW] at h; done) | exact va_tabs rfl rfl hn
theorem tw_bef {Z : ZT} (hZ : zOK Z) {A0 : Nat → Prop} {s : State} {args : Array Value} (hz : zS Z A0 s s.heap) (hts : ∀ w ∈ GT, w.before args s = true) {w : Cond} (h : w ∈ GT ∨ w ∈ NLW) : w.before args s = true := by
  rcases h with h | h
  · exact hts w h
  · exact nest_args (List.mem_filter.mp h).2 (hZ.2.2.2.2 _ _ _ hz w h)
theorem tw_inL {ws : List Cond} (h : ws.all (fun w => lw_tbl.contains w && (goodWord w || nestW w)) = true) : ∀ w ∈ ws, w ∈ GT ∨ w ∈ NLW := by
  intro w hw
  have h1 := List.all_eq_true.mp h w hw
  simp only [Bool.and_eq_true, Bool.or_eq_true] at h1
  obtain ⟨h2, h3⟩ := h1
  have h4 : w ∈ lw_tbl := List.contains_iff_mem.mp h2
  rcases h3 with h3 | h3
  · exact Or.inl (List.mem_filter.mpr ⟨h4, h3⟩)
  · exact Or.inr (List.mem_filter.mpr ⟨h4, h3⟩)
section RW13
variable {p : Program} {l : Launch} {e : Env} {R : Room} {s : State} {m : MethodId} {args : Array Value} {below : List Frame} {meth : Method} {c : Code} {H : Heap} {locs : List Loc} {cells slots : Nat} {Q : State → Prop}
variable {α : Type} {Z : ZT} {L : List α} {A : α → Nat} {E : α → va_E} {A0 : Nat → Prop} {cc : ByteArray} {nL pc index : Nat} {own : String} {ls : Array Slot} {rest st : List Value} {a : Array Value}
variable {Qc : Array Value → State → Outcome → State → Prop} {XC : String → State → State → Prop} {mc ms : Nat}
theorem x_keep (hW : wX Z L A E A0 s H locs) {t : State} (h1 : H.size ≤ t.heap.size) (h2 : ∀ q : Nat, q < H.size → t.heap[q]? = H[q]?) : qB Z L A E A0 t ∧ va_F A0 s t := by
  obtain ⟨w1, w2, w3, w4, w5, w6⟩ := hW
  exact ⟨⟨va_P.kept w1 (fun k q hq => h2 _ (w1 k q hq).lt), w2⟩, ⟨Nat.le_trans w3.1 h1, fun q hq hA => (h2 q (Nat.lt_of_lt_of_le hq w3.1)).trans (w3.2.1 q hq hA)⟩⟩
/-- throw new X(text): the text by a wide index, or by a narrow one -/
theorem x_throwSW (S : CallFix p m c cc nL s args GT RX9) (hZ : zOK Z) (hl0 : l.stackTraces = false) (hx : ZX Z) (hnt : ∀ x ∈ c.exceptionTable.toList, False) (hls : ls.size = nL) (hlk : meth.locks = false) (hW : wX Z L A E A0 s H locs) {ik is ic : Nat} {X text : String} (hfit : Bundle.fit X = true) (hk : Cond.classLink RX9 ik X ∈ GT) (hini : Cond.initialized X ∈ GT) (hstr : (is, text) ∈ STRS) (htw : (vx_atS RX9 ic X exNm).all (fun w => lw_tbl.contains w && (goodWord w || nestW w)) = true) (hot : (vx_atS RX9 ic X exNm).all vx_ot = true)
    (d0 : decode cc pc = .ok (.new ik, 3)) (d3 : decode cc (pc + 3) = .ok (.dup, 1)) (d4 : decode cc (pc + 4) = .ok (.ldc_w is, 3)) (d7 : decode cc (pc + 7) = .ok (.invokespecial ic, 3)) (d10 : decode cc (pc + 10) = .ok (.athrow, 1))
    (hRf : 5 < R.frames) (hRl : (rest.map fun v => v.category).sum + 82 ≤ R.locals) (hRc : cells + 1 ≤ R.cells) (hRs : slots + 6 ≤ R.slots) (hc : cells + 1 ≤ mc) (hs : slots + 6 ≤ ms) (hX : ∀ t : State, qB Z L A E A0 t → va_F A0 s t → XC X s t) :
    W p l e R s m args below meth c H locs cells slots (vx_MQ below Qc XC args s mc ms A0) (F0 m pc ls rest) := by
  have hz := hW.2.2.2.2.2
  have h9 := hx _ _ _ hz
  obtain ⟨sa, hsa⟩ := h9.2.2.2 _ hstr
  refine vx_throwSW S.1 S.2.1 hl0 (names := exNm) S.2.2.2.1 hfit (fun n hn => by
    simp only [exNm, List.mem_cons, List.not_mem_nil, or_false] at hn
    rcases hn with rfl | rfl <;> decide +kernel) (S.2.2.2.2 _ hk) (S.2.2.2.2 _ hini) hsa (fun w hw => tw_bef hZ hz S.2.2.2.2 (tw_in htw w hw)) (fun w hw => ?_) h9.2.1 h9.2.2.1 hW.2.2.1 (hls.trans S.2.2.1.symm) d0 d3 d4 d7 d10 (fun x hx => (hnt x hx).elim) (by exact hRf) (by exact hRl) hRc hRs hlk (fun t _ h1 h2 => ?_) hW.2.2.1.2.2 hc hs
  · rcases List.mem_cons.mp hw with rfl | hw
    · exact (Bool.or_eq_true _ _).mpr (Or.inr (List.mem_filter.mp hk).2)
    · rcases List.mem_cons.mp hw with rfl | hw
      · exact (Bool.or_eq_true _ _).mpr (Or.inr (List.mem_filter.mp hini).2)
      · exact List.all_eq_true.mp hot w hw
  · obtain ⟨k1, k2⟩ := x_keep hW h1 h2
    exact hX t k1 k2
theorem x_throwS (S : CallFix p m c cc nL s args GT RX9) (hZ : zOK Z) (hl0 : l.stackTraces = false) (hx : ZX Z) (hnt : ∀ x ∈ c.exceptionTable.toList, False) (hls : ls.size = nL) (hlk : meth.locks = false) (hW : wX Z L A E A0 s H locs) {ik is ic : Nat} {X text : String} (hfit : Bundle.fit X = true) (hk : Cond.classLink RX9 ik X ∈ GT) (hini : Cond.initialized X ∈ GT) (hstr : (is, text) ∈ STRS) (htw : (vx_atS RX9 ic X exNm).all (fun w => lw_tbl.contains w && (goodWord w || nestW w)) = true) (hot : (vx_atS RX9 ic X exNm).all vx_ot = true)
    (d0 : decode cc pc = .ok (.new ik, 3)) (d3 : decode cc (pc + 3) = .ok (.dup, 1)) (d4 : decode cc (pc + 4) = .ok (.ldc is, 2)) (d7 : decode cc (pc + 6) = .ok (.invokespecial ic, 3)) (d10 : decode cc (pc + 9) = .ok (.athrow, 1))
    (hRf : 5 < R.frames) (hRl : (rest.map fun v => v.category).sum + 82 ≤ R.locals) (hRc : cells + 1 ≤ R.cells) (hRs : slots + 6 ≤ R.slots) (hc : cells + 1 ≤ mc) (hs : slots + 6 ≤ ms) (hX : ∀ t : State, qB Z L A E A0 t → va_F A0 s t → XC X s t) :
    W p l e R s m args below meth c H locs cells slots (vx_MQ below Qc XC args s mc ms A0) (F0 m pc ls rest) := by
  have hz := hW.2.2.2.2.2
  have h9 := hx _ _ _ hz
  obtain ⟨sa, hsa⟩ := h9.2.2.2 _ hstr
  refine vx_throwS S.1 S.2.1 hl0 (names := exNm) S.2.2.2.1 hfit (fun n hn => by
    simp only [exNm, List.mem_cons, List.not_mem_nil, or_false] at hn
    rcases hn with rfl | rfl <;> decide +kernel) (S.2.2.2.2 _ hk) (S.2.2.2.2 _ hini) hsa (fun w hw => tw_bef hZ hz S.2.2.2.2 (tw_in htw w hw)) (fun w hw => ?_) h9.2.1 h9.2.2.1 hW.2.2.1 (hls.trans S.2.2.1.symm) d0 d3 d4 d7 d10 (fun x hx => (hnt x hx).elim) (by exact hRf) (by exact hRl) hRc hRs hlk (fun t _ h1 h2 => ?_) hW.2.2.1.2.2 hc hs
  · rcases List.mem_cons.mp hw with rfl | hw
    · exact (Bool.or_eq_true _ _).mpr (Or.inr (List.mem_filter.mp hk).2)
    · rcases List.mem_cons.mp hw with rfl | hw
      · exact (Bool.or_eq_true _ _).mpr (Or.inr (List.mem_filter.mp hini).2)
      · exact List.all_eq_true.mp hot w hw
  · obtain ⟨k1, k2⟩ := x_keep hW h1 h2
    exact hX t k1 k2
/-- throw new NoSuchElementException(text) -/
theorem x_throwNW (S : CallFix p m c cc nL s args GT RX9) (hZ : zOK Z) (hl0 : l.stackTraces = false) (hx : ZX Z) (hnt : ∀ x ∈ c.exceptionTable.toList, False) (hls : ls.size = nL) (hlk : meth.locks = false) (hW : wX Z L A E A0 s H locs) {is : Nat} {text : String} (hstr : (is, text) ∈ STRS)
    (d0 : decode cc pc = .ok (.new 170, 3)) (d3 : decode cc (pc + 3) = .ok (.dup, 1)) (d4 : decode cc (pc + 4) = .ok (.ldc_w is, 3)) (d7 : decode cc (pc + 7) = .ok (.invokespecial 174, 3)) (d10 : decode cc (pc + 10) = .ok (.athrow, 1))
    (hRf : 5 < R.frames) (hRl : (rest.map fun v => v.category).sum + 82 ≤ R.locals) (hRc : cells + 1 ≤ R.cells) (hRs : slots + 6 ≤ R.slots) (hc : cells + 1 ≤ mc) (hs : slots + 6 ≤ ms) (hX : ∀ t : State, qB Z L A E A0 t → va_F A0 s t → XC "java/util/NoSuchElementException" s t) :
    W p l e R s m args below meth c H locs cells slots (vx_MQ below Qc XC args s mc ms A0) (F0 m pc ls rest) := by
  have hz := hW.2.2.2.2.2
  have h9 := hx _ _ _ hz
  obtain ⟨sa, hsa⟩ := h9.2.2.2 _ hstr
  refine nx_makeW S.1 S.2.1 hl0 (Y9 := "java/lang/RuntimeException") (names := ["java/lang/Exception"]) (rx := prog_33_method_4_code) (ix := 13) (by decide +kernel) (by decide +kernel) (by decide +kernel) (by decide +kernel) (by decide +kernel) S.2.2.2.1 (cls := "java/util/NoSuchElementException") (by decide +kernel) (fun n hn => by
    simp only [List.mem_cons, List.not_mem_nil, or_false] at hn
    rcases hn with rfl
    decide +kernel) (S.2.2.2.2 _ g_661) (S.2.2.2.2 _ g_83) hsa (fun w hw => tw_bef hZ hz S.2.2.2.2 (tw_inL tw_4 w hw)) (fun w hw => ?_) h9.2.1 h9.2.2.1 hW.2.2.1 (hls.trans S.2.2.1.symm) d0 d3 d4 d7 (by exact hRf) (by exact hRl) hRc hRs (fun q ce H1 k1 k2 k3 k4 k5 => ?_)
  · rcases List.mem_cons.mp hw with rfl | hw
    · exact (Bool.or_eq_true _ _).mpr (Or.inr (List.mem_filter.mp g_661).2)
    · rcases List.mem_cons.mp hw with rfl | hw
      · exact (Bool.or_eq_true _ _).mpr (Or.inr (List.mem_filter.mp g_83).2)
      · exact List.all_eq_true.mp ot_4 w hw
  · refine vx_athrow S.1 S.2.1 d10 (vx_out (fun x hx => (hnt x hx).elim) hlk k1 k2 k3 (fun t ht _ => ?_) hW.2.2.1.2.2 hc hs)
    obtain ⟨k6, k7⟩ := x_keep hW (t := t) (by rw [ht]; exact k4) (fun q hq => by rw [ht]; exact k5 q hq)
    exact hX t k6 k7
/-- throw new NoSuchElementException(text) -/
theorem x_throwN (S : CallFix p m c cc nL s args GT RX9) (hZ : zOK Z) (hl0 : l.stackTraces = false) (hx : ZX Z) (hnt : ∀ x ∈ c.exceptionTable.toList, False) (hls : ls.size = nL) (hlk : meth.locks = false) (hW : wX Z L A E A0 s H locs) {is : Nat} {text : String} (hstr : (is, text) ∈ STRS)
    (d0 : decode cc pc = .ok (.new 170, 3)) (d3 : decode cc (pc + 3) = .ok (.dup, 1)) (d4 : decode cc (pc + 4) = .ok (.ldc is, 2)) (d7 : decode cc (pc + 6) = .ok (.invokespecial 174, 3)) (d10 : decode cc (pc + 9) = .ok (.athrow, 1))
    (hRf : 5 < R.frames) (hRl : (rest.map fun v => v.category).sum + 82 ≤ R.locals) (hRc : cells + 1 ≤ R.cells) (hRs : slots + 6 ≤ R.slots) (hc : cells + 1 ≤ mc) (hs : slots + 6 ≤ ms) (hX : ∀ t : State, qB Z L A E A0 t → va_F A0 s t → XC "java/util/NoSuchElementException" s t) :
    W p l e R s m args below meth c H locs cells slots (vx_MQ below Qc XC args s mc ms A0) (F0 m pc ls rest) := by
  have hz := hW.2.2.2.2.2
  have h9 := hx _ _ _ hz
  obtain ⟨sa, hsa⟩ := h9.2.2.2 _ hstr
  refine nx_makeS S.1 S.2.1 hl0 (Y9 := "java/lang/RuntimeException") (names := ["java/lang/Exception"]) (rx := prog_33_method_4_code) (ix := 13) (by decide +kernel) (by decide +kernel) (by decide +kernel) (by decide +kernel) (by decide +kernel) S.2.2.2.1 (cls := "java/util/NoSuchElementException") (by decide +kernel) (fun n hn => by
    simp only [List.mem_cons, List.not_mem_nil, or_false] at hn
    rcases hn with rfl
    decide +kernel) (S.2.2.2.2 _ g_661) (S.2.2.2.2 _ g_83) hsa (fun w hw => tw_bef hZ hz S.2.2.2.2 (tw_inL tw_4 w hw)) (fun w hw => ?_) h9.2.1 h9.2.2.1 hW.2.2.1 (hls.trans S.2.2.1.symm) d0 d3 d4 d7 (by exact hRf) (by exact hRl) hRc hRs (fun q ce H1 k1 k2 k3 k4 k5 => ?_)
  · rcases List.mem_cons.mp hw with rfl | hw
    · exact (Bool.or_eq_true _ _).mpr (Or.inr (List.mem_filter.mp g_661).2)
    · rcases List.mem_cons.mp hw with rfl | hw
      · exact (Bool.or_eq_true _ _).mpr (Or.inr (List.mem_filter.mp g_83).2)
      · exact List.all_eq_true.mp ot_4 w hw
  · refine vx_athrow S.1 S.2.1 d10 (vx_out (fun x hx => (hnt x hx).elim) hlk k1 k2 k3 (fun t ht _ => ?_) hW.2.2.1.2.2 hc hs)
    obtain ⟨k6, k7⟩ := x_keep hW (t := t) (by rw [ht]; exact k4) (fun q hq => by rw [ht]; exact k5 q hq)
    exact hX t k6 k7
end RW13
theorem ot_1 : (vx_atS RX9 318 "java/lang/IndexOutOfBoundsException" exNm).all vx_ot = true := by decide +kernel
theorem ot_2 : (vx_atS RX9 281 "java/lang/IllegalArgumentException" exNm).all vx_ot = true := by decide +kernel
theorem ot_3 : (vx_atS RX9 296 "java/lang/IllegalStateException" exNm).all vx_ot = true := by decide +kernel
theorem ot_5 : (vx_atS RX9 326 "java/lang/ArithmeticException" exNm).all vx_ot = true := by decide +kernel
