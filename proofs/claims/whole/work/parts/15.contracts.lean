/-! CONTRACTS: XC the world stays; XM it changes (any world); CM the class's world changes; MM the model's -/
abbrev hdW (y : MethodName) (cc : ByteArray) (nL : Nat) (ret : Option FieldType) : List Cond := Cond.code y cc nL ret :: GT
abbrev XCi (l : Launch) (y : MethodName) (cc : ByteArray) (nL : Nat) (ret : Option FieldType) (d : Nat) (As : List Value) (Z : ZT) {α : Type} (L : List α) (A : α → Nat) (E : α → va_E) (sz : Nat) (post : Int32 → Prop) : Prop :=
  Met l y (hdW y cc nL ret) (rmD d 0 0) (va_Pc As (pB Z L A E sz)) (va_Qi (fun r (_ : Unit) => post r) (fun _ t => qB Z L A E (fA L A E sz) t) (fA L A E sz)) 0 0 (fA L A E sz)
abbrev XCl (l : Launch) (y : MethodName) (cc : ByteArray) (nL : Nat) (ret : Option FieldType) (d : Nat) (As : List Value) (Z : ZT) {α : Type} (L : List α) (A : α → Nat) (E : α → va_E) (sz : Nat) (post : Int64 → Prop) : Prop :=
  Met l y (hdW y cc nL ret) (rmD d 0 0) (va_Pc As (pB Z L A E sz)) (va_Ql (fun r (_ : Unit) => post r) (fun _ t => qB Z L A E (fA L A E sz) t) (fA L A E sz)) 0 0 (fA L A E sz)
abbrev XMi (l : Launch) (y : MethodName) (cc : ByteArray) (nL : Nat) (ret : Option FieldType) (d : Nat) (As : List Value) (Z : ZT) {α M : Type} (L : List α) (A : α → Nat) (F : M → α → va_E) (μ : M) (sz : Nat) (post : Int32 → M → Prop) : Prop :=
  Met l y (hdW y cc nL ret) (rmD d 0 0) (va_Pc As (pB Z L A (F μ) sz)) (va_Qi post (fun u t => qB Z L A (F u) (fA L A (F μ) sz) t) (fA L A (F μ) sz)) 0 0 (fA L A (F μ) sz)
abbrev XMl (l : Launch) (y : MethodName) (cc : ByteArray) (nL : Nat) (ret : Option FieldType) (d : Nat) (As : List Value) (Z : ZT) {α M : Type} (L : List α) (A : α → Nat) (F : M → α → va_E) (μ : M) (sz : Nat) (post : Int64 → M → Prop) : Prop :=
  Met l y (hdW y cc nL ret) (rmD d 0 0) (va_Pc As (pB Z L A (F μ) sz)) (va_Ql post (fun u t => qB Z L A (F u) (fA L A (F μ) sz) t) (fA L A (F μ) sz)) 0 0 (fA L A (F μ) sz)
abbrev XMv (l : Launch) (y : MethodName) (cc : ByteArray) (nL : Nat) (d : Nat) (As : List Value) (Z : ZT) {α M : Type} (L : List α) (A : α → Nat) (F : M → α → va_E) (μ : M) (sz : Nat) (post : M → Prop) : Prop :=
  Met l y (hdW y cc nL none) (rmD d 0 0) (va_Pc As (pB Z L A (F μ) sz)) (va_Qv post (fun u t => qB Z L A (F u) (fA L A (F μ) sz) t) (fA L A (F μ) sz)) 0 0 (fA L A (F μ) sz)
section RW4
variable {p : Program} {l : Launch} {e : Env} {R : Room} {s : State} {m : MethodId} {args : Array Value} {below : List Frame} {meth : Method} {c : Code} {H : Heap} {locs : List Loc} {cells slots : Nat} {Q : State → Prop}
variable {α : Type} {Z : ZT} {L : List α} {A : α → Nat} {E : α → va_E} {A0 : Nat → Prop} {cc : ByteArray} {nL pc index : Nat} {own : String} {ls : Array Slot} {rest st : List Value} {a : Array Value}
theorem r_iret0 (S : CallFix p m c cc nL s args GT own) (hr : meth.sig.returnType = some .int) (hlk : meth.locks = false) {post : Int32 → Prop} (hW : wX Z L A E A0 s H locs) {v : Int32} (hp : post v) (hdg : decode cc pc = .ok (.ireturn, 1)) :
    W p l e R s m args below meth c H locs cells slots (MQ below (va_Qi (fun r (_ : Unit) => post r) (fun _ t => qB Z L A E A0 t) A0) args s cells slots A0) (F0 m pc ls [.int v]) :=
  W.iret S.1 S.2.1 hr (fun t ht _ => ⟨⟨v, (), rfl, hp, (wX_out hW ht).1⟩, (wX_out hW ht).2⟩) hW.2.2.1.2.2 hdg hlk
theorem r_zret0 (S : CallFix p m c cc nL s args GT own) {ty : FieldType} (hr : meth.sig.returnType = some ty) (hlk : meth.locks = false) {post : Int32 → Prop} (hW : wX Z L A E A0 s H locs) {v : Int32} (hn : narrow ty (.int v) = .int v) (hp : post v) (hdg : decode cc pc = .ok (.ireturn, 1)) :
    W p l e R s m args below meth c H locs cells slots (MQ below (va_Qi (fun r (_ : Unit) => post r) (fun _ t => qB Z L A E A0 t) A0) args s cells slots A0) (F0 m pc ls [.int v]) :=
  W.zret S.1 S.2.1 hr hn (fun t ht _ => ⟨⟨v, (), rfl, hp, (wX_out hW ht).1⟩, (wX_out hW ht).2⟩) hW.2.2.1.2.2 hdg hlk
theorem r_lret0 (S : CallFix p m c cc nL s args GT own) (hr : meth.sig.returnType = some .long) (hlk : meth.locks = false) {post : Int64 → Prop} (hW : wX Z L A E A0 s H locs) {v : Int64} (hp : post v) (hdg : decode cc pc = .ok (.lreturn, 1)) :
    W p l e R s m args below meth c H locs cells slots (MQ below (va_Ql (fun r (_ : Unit) => post r) (fun _ t => qB Z L A E A0 t) A0) args s cells slots A0) (F0 m pc ls [.long v]) :=
  W.lret S.1 S.2.1 hr (fun t ht _ => ⟨⟨v, (), rfl, hp, (wX_out hW ht).1⟩, (wX_out hW ht).2⟩) hW.2.2.1.2.2 hdg hlk
theorem r_calli0 {post : Int32 → Prop} (hr : va_Run p l e R s m args below meth c H locs cells slots 0 0 (F0 m pc ls st) rest (va_Qi (fun r (_ : Unit) => post r) (fun _ t => qB Z L A E (fA L A E H.size) t) (fA L A E H.size) a) (fA L A E H.size)) (hW : wX Z L A E A0 s H locs)
    (kk : ∀ (r : Int32) (H1 : Heap) (locs1 : List Loc), post r → wX Z L A E A0 s H1 locs1 → W p l e R s m args below meth c H1 locs1 cells slots Q (F0 m (pc + 3) ls (.int r :: rest))) : W p l e R s m args below meth c H locs cells slots Q (F0 m pc ls st) :=
  va_calli hr hW.2.2.1 (fun q _ h => wX_fA hW q h) (wX_fA hW) (fun r _ t H1 locs1 ht _ hp hB _ _ hS => kk r H1 locs1 hp (wX_back hW ht hB hS))
theorem r_calll0 {post : Int64 → Prop} (hr : va_Run p l e R s m args below meth c H locs cells slots 0 0 (F0 m pc ls st) rest (va_Ql (fun r (_ : Unit) => post r) (fun _ t => qB Z L A E (fA L A E H.size) t) (fA L A E H.size) a) (fA L A E H.size)) (hW : wX Z L A E A0 s H locs)
    (kk : ∀ (r : Int64) (H1 : Heap) (locs1 : List Loc), post r → wX Z L A E A0 s H1 locs1 → W p l e R s m args below meth c H1 locs1 cells slots Q (F0 m (pc + 3) ls (.long r :: rest))) : W p l e R s m args below meth c H locs cells slots Q (F0 m pc ls st) :=
  va_calll hr hW.2.2.1 (fun q _ h => wX_fA hW q h) (wX_fA hW) (fun r _ t H1 locs1 ht _ hp hB _ _ hS => kk r H1 locs1 hp (wX_back hW ht hB hS))
end RW4
/-! small words -/
/-- a boolean answer -/
def BP (r : Int32) (P : Prop) : Prop := (r = nI 1 ∧ P) ∨ (r = nI 0 ∧ ¬ P)
theorem BP_t {P : Prop} (h : P) : BP (nI 1) P := Or.inl ⟨rfl, h⟩
theorem BP_f {P : Prop} (h : ¬ P) : BP (nI 0) P := Or.inr ⟨rfl, h⟩
theorem BP_c {r : Int32} {P P' : Prop} (e : P ↔ P') (h : BP r P) : BP r P' := by
  rcases h with ⟨h1, h2⟩ | ⟨h1, h2⟩
  · exact Or.inl ⟨h1, e.mp h2⟩
  · exact Or.inr ⟨h1, fun z => h2 (e.mpr z)⟩
/-- what read and write do -/
def rd (n : Nat) (f : Nat → Int32) (i : Int32) : Int32 := if 0 ≤ i ∧ i < nI n then f i.toNatClampNeg else 0
def wr (n : Nat) (f : Nat → Int32) (i v : Int32) : Nat → Int32 := if 0 ≤ i ∧ i < nI n then upd f i.toNatClampNeg v else f
theorem nI_rng {n k : Nat} (h : k < n) (hn : n < 2 ^ 31) : 0 ≤ nI k ∧ nI k < nI n := ⟨nI_pos' (by omega), nI_lt h hn⟩
theorem rd_in {n k : Nat} (f : Nat → Int32) (h : k < n) (hn : n < 2 ^ 31) : rd n f (nI k) = f k := by
  unfold rd
  rw [if_pos (nI_rng h hn), nI_clamp (by omega)]
theorem wr_in {n k : Nat} (f : Nat → Int32) (v : Int32) (h : k < n) (hn : n < 2 ^ 31) : wr n f (nI k) v = upd f k v := by
  unfold wr
  rw [if_pos (nI_rng h hn), nI_clamp (by omega)]
theorem rd_no {n : Nat} (f : Nat → Int32) {i : Int32} (h : ¬ (0 ≤ i ∧ i < nI n)) : rd n f i = 0 := if_neg h
theorem I_lt0 {x : Int32} : x < 0 ↔ ¬ 0 ≤ x := by
  rw [Int32.lt_iff_toInt_lt, Int32.le_iff_toInt_le]
  omega
theorem I_nle {x y : Int32} : ¬ x ≤ y ↔ y < x := by
  rw [Int32.lt_iff_toInt_lt, Int32.le_iff_toInt_le]
  omega
theorem I_nlt {x y : Int32} : ¬ x < y ↔ y ≤ x := by
  rw [Int32.lt_iff_toInt_lt, Int32.le_iff_toInt_le]
  omega
theorem I_rngN {x : Int32} {n : Nat} (hn : n < 2 ^ 31) : (0 ≤ x ∧ x < nI n) ↔ ∃ q, q < n ∧ x = nI q := by
  constructor
  · intro ⟨h1, h2⟩
    rcases pk_ix x hn with h | h | ⟨j, h, e⟩
    · exact absurd h1 (I_lt0.mp h)
    · exact absurd h (I_nle.mpr h2)
    · exact ⟨j, h, e⟩
  · rintro ⟨q, h, rfl⟩
    exact nI_rng h hn
theorem I_rng2 {x : Int32} {lo hi : Nat} (hl : lo ≤ hi) (hh : hi < 2 ^ 31) : (nI lo ≤ x ∧ x ≤ nI hi) ↔ ∃ q, lo ≤ q ∧ q ≤ hi ∧ x = nI q := by
  have hlo : lo < 2 ^ 31 := by omega
  constructor
  · intro ⟨h1, h2⟩
    have h0 : ¬ x < 0 := by
      rw [Int32.lt_iff_toInt_lt]
      rw [Int32.le_iff_toInt_le, nI_toInt hlo] at h1
      have : (0 : Int32).toInt = 0 := rfl
      omega
    obtain ⟨j, hj, rfl⟩ := nI_of h0
    exact ⟨j, (nI_leI hlo hj).mp h1, (nI_leI hj hh).mp h2, rfl⟩
  · rintro ⟨q, h1, h2, rfl⟩
    exact ⟨nI_le h1 (by omega), nI_le h2 hh⟩
theorem vp_of {x : Int32} {n : Nat} (h1 : ¬ x < 0) (h2 : ¬ nI n ≤ x) (hn : n < 2 ^ 31) : vp_in x n := by
  obtain ⟨j, hj, rfl⟩ := nI_of h1
  exact vp_in_nI (Nat.lt_of_not_le (fun z => h2 (nI_le z hj))) hn
theorem rd_y {n : Nat} {f : Nat → Int32} {i : Int32} (h1 : ¬ i < 0) (h2 : ¬ nI n ≤ i) : f i.toNatClampNeg = rd n f i := by
  unfold rd
  rw [if_pos ⟨I_nlt.mp h1, I_nle.mp h2⟩]
theorem rd_1 {n : Nat} {f : Nat → Int32} {i : Int32} (h1 : i < 0) : nI 0 = rd n f i := by
  unfold rd
  rw [if_neg (fun z => I_nlt.mpr z.1 h1), nI_0]
theorem rd_2 {n : Nat} {f : Nat → Int32} {i : Int32} (h1 : nI n ≤ i) : nI 0 = rd n f i := by
  unfold rd
  rw [if_neg (fun z => I_nle.mpr z.2 h1), nI_0]
theorem wr_y {n : Nat} {f : Nat → Int32} {i v : Int32} (h1 : ¬ i < 0) (h2 : ¬ nI n ≤ i) : upd f i.toNatClampNeg v = wr n f i v := by
  unfold wr
  rw [if_pos ⟨I_nlt.mp h1, I_nle.mp h2⟩]
theorem wr_1 {n : Nat} {f : Nat → Int32} {i v : Int32} (h1 : i < 0) : f = wr n f i v := by
  unfold wr
  rw [if_neg (fun z => I_nlt.mpr z.1 h1)]
theorem wr_2 {n : Nat} {f : Nat → Int32} {i v : Int32} (h1 : nI n ≤ i) : f = wr n f i v := by
  unfold wr
  rw [if_neg (fun z => I_nle.mpr z.2 h1)]
theorem up2_id (μ : CM) (b o : Nat) : up2 μ b o (μ b o) = μ := by
  funext b2 o2
  by_cases h : b2 = b ∧ o2 = o
  · rw [h.1, h.2, up2_s]
  · rw [up2_n h]
theorem up2_2 (μ : CM) (b o : Nat) (f f2 : Nat → Int32) : up2 (up2 μ b o f) b o f2 = up2 μ b o f2 := by
  funext b2 o2
  by_cases h : b2 = b ∧ o2 = o
  · rw [h.1, h.2, up2_s, up2_s]
  · rw [up2_n h, up2_n h, up2_n h]
theorem up1_id (ν : MM) (i : Nat) : up1 ν i (ν i) = ν := by
  funext j
  by_cases h : j = i
  · rw [h, up1_s]
  · rw [up1_n h]
theorem up1_2 (ν : MM) (i : Nat) (f f2 : Nat → Int32) : up1 (up1 ν i f) i f2 = up1 ν i f2 := by
  funext j
  by_cases h : j = i
  · rw [h, up1_s, up1_s]
  · rw [up1_n h, up1_n h, up1_n h]
theorem aLen_lt {o n : Nat} (h : aLen o = some n) : n < 2 ^ 31 := by
  unfold aLen at h
  split at h <;> first | (cases h; omega) | cases h
theorem mLen_lt (i : Nat) : mLen i < 2 ^ 31 := by
  unfold mLen
  split <;> omega
theorem n_dec {a : Nat} (h : 1 ≤ a) : nI a + Int32.ofInt (-1) = nI (a - 1) := by
  obtain ⟨b, rfl⟩ : ∃ b, a = b + 1 := ⟨a - 1, by omega⟩
  exact pk_m1 b
section RW5
variable {p : Program} {l : Launch} {e : Env} {R : Room} {s : State} {m : MethodId} {args : Array Value} {below : List Frame} {meth : Method} {c : Code} {H : Heap} {locs : List Loc} {cells slots : Nat} {Q : State → Prop}
variable {Z : ZT} {B : Nat → Nat} {ν : MM} {A0 : Nat → Prop} {cc : ByteArray} {nL pc : Nat} {own : String} {ls : Array Slot} {rest : List Value}
theorem gm_ald (S : CallFix p m c cc nL s args GT own) (hW : wX Z mds B (mE Z B ν) A0 s H locs) {i k n : Nat} (hi : i < 13) (h0 : 0 < i) (hn : mLen i = n) (hk : k < n) (hd : decode cc pc = .ok (.iaload, 1)) (kk : W p l e R s m args below meth c H locs cells slots Q (F0 m (pc + 1) ls (.int (ν i k) :: rest))) : W p l e R s m args below meth c H locs cells slots Q (F0 m pc ls (.int (nI k) :: .ref (B i) :: rest)) := by
  have hl := mLen_lt i
  refine r_iald S hW (x := i) (List.mem_range.mpr hi) (mE_arr h0) (vp_in_nI (by omega) hl) hd ?_
  rw [nI_clamp (by omega)]
  exact kk
theorem gm_ast (S : CallFix p m c cc nL s args GT own) (hW : wX Z mds B (mE Z B ν) A0 s H locs) {i k n : Nat} {v : Int32} (hi : i < 13) (h0 : 0 < i) (hn : mLen i = n) (hk : k < n) (hd : decode cc pc = .ok (.iastore, 1)) (kk : ∀ (H1 : Heap) (locs1 : List Loc), wX Z mds B (mE Z B (up1 ν i (upd (ν i) k v))) A0 s H1 locs1 → W p l e R s m args below meth c H1 locs1 cells slots Q (F0 m (pc + 1) ls rest)) : W p l e R s m args below meth c H locs cells slots Q (F0 m pc ls (.int v :: .int (nI k) :: .ref (B i) :: rest)) := by
  have hl := mLen_lt i
  refine r_iast S hW (x := i) (E' := mE Z B (up1 ν i (upd (ν i) k v))) (List.mem_range.mpr hi) (mE_arr h0) (vp_in_nI (by omega) hl) ?_ (fun y hy => mE_up y hy) hd kk
  rw [mE_arr h0, up1_s, nI_clamp (by omega)]
end RW5
