/-! THE CLASS'S WORLD: cells (b, o): b = 0, 1, 2 the states now, trial, snapshot, 3..10 those of the ring, 11 the tanks' copy; o = 0..13 a state's cells, 14..27 (at b = 0) the rest -/
abbrev CM : Type := Nat → Nat → Nat → Int32
abbrev MM : Type := Nat → Nat → Int32
def up2 (μ : CM) (b o : Nat) (f : Nat → Int32) : CM := fun b2 o2 => if b2 = b ∧ o2 = o then f else μ b2 o2
def up1 (μ : MM) (i : Nat) (f : Nat → Int32) : MM := fun j => if j = i then f else μ j
def aLen : Nat → Option Nat
  | 2 => some 8
  | 3 => some 8
  | 5 => some 640
  | 6 => some 640
  | 7 => some 4
  | 8 => some 4
  | 10 => some 4
  | 11 => some 4
  | 12 => some 4
  | 13 => some 36
  | 18 => some 64
  | 19 => some 160
  | 20 => some 160
  | 21 => some 4
  | 23 => some 60
  | 24 => some 12
  | 25 => some 48
  | 27 => some 80
  | _ => none
def cEo (Z : ZT) (A : Nat × Nat → Nat) (g : Nat → Bool) (μ : CM) (b : Nat) : Nat → va_E
  | 0 => .inr (8, [.ref (A (b, 1)), .ref (A (b, 4)), .ref (A (b, 9))])
  | 1 => .inr (2, [.ref (A (b, 2)), .ref (A (b, 3)), .int (μ b 1 2)])
  | 2 => .inl (zI Z, 8, .inl (μ b 2))
  | 3 => .inl (zI Z, 8, .inl (μ b 3))
  | 4 => .inr (7, [.ref (A (b, 5)), .ref (A (b, 6)), .ref (A (b, 7)), .ref (A (b, 8))])
  | 5 => .inl (zI Z, 640, .inl (μ b 5))
  | 6 => .inl (zI Z, 640, .inl (μ b 6))
  | 7 => .inl (zI Z, 4, .inl (μ b 7))
  | 8 => .inl (zI Z, 4, .inl (μ b 8))
  | 9 => .inr (9, [.ref (A (b, 10)), .ref (A (b, 11)), .ref (A (b, 12)), .ref (A (b, 13)), .int (μ b 9 4), .int (μ b 9 5), .int (μ b 9 6), .int (μ b 9 7)])
  | 10 => .inl (zI Z, 4, .inl (μ b 10))
  | 11 => .inl (zI Z, 4, .inl (μ b 11))
  | 12 => .inl (zI Z, 4, .inl (μ b 12))
  | 13 => .inl (zI Z, 36, .inl (μ b 13))
  | 14 => .inr (10, [.ref (A (0, 0)), .ref (A (1, 0)), .ref (A (2, 0)), .ref (A (0, 15)), .ref (A (0, 17)), .ref (A (11, 9)), .ref (A (0, 21)), .ref (A (0, 22)), .ref (A (0, 26)), .int (μ b 14 9), .int (μ b 14 10), .int (μ b 14 11)])
  | 15 => .inr (4, [.ref (A (0, 16)), .int (μ b 15 1), .int (μ b 15 2)])
  | 16 => .inl (zR Z, 8, .inr (.inr (.inr (.inr (fun j => if g j then some (A (j + 3, 0)) else none)))))
  | 17 => .inr (6, [.ref (A (0, 18)), .ref (A (0, 19)), .ref (A (0, 20))])
  | 18 => .inl (zI Z, 64, .inl (μ b 18))
  | 19 => .inl (zI Z, 160, .inl (μ b 19))
  | 20 => .inl (zI Z, 160, .inl (μ b 20))
  | 21 => .inl (zI Z, 4, .inl (μ b 21))
  | 22 => .inr (3, [.ref (A (0, 23)), .int (μ b 22 1), .ref (A (0, 24)), .ref (A (0, 25)), .int (μ b 22 4), .int (μ b 22 5)])
  | 23 => .inl (zI Z, 60, .inl (μ b 23))
  | 24 => .inl (zI Z, 12, .inl (μ b 24))
  | 25 => .inl (zI Z, 48, .inl (μ b 25))
  | 26 => .inr (5, [.ref (A (0, 27)), .int (μ b 26 1)])
  | 27 => .inl (zI Z, 80, .inl (μ b 27))
  | _ => .inr (0, [])
def cE (Z : ZT) (A : Nat × Nat → Nat) (g : Nat → Bool) (μ : CM) (x : Nat × Nat) : va_E := cEo Z A g μ x.1 x.2
def liveB (g : Nat → Bool) (b o : Nat) : Bool := (decide (b < 3) && decide (o < 14)) || (decide (b = 0) && decide (14 ≤ o)) || (decide (b = 11) && decide (9 ≤ o) && decide (o < 14)) || (decide (3 ≤ b) && decide (b < 11) && decide (o < 14) && g (b - 3))
def ids (g : Nat → Bool) : List (Nat × Nat) := (List.range 12).flatMap (fun b => ((List.range 28).filter (fun o => liveB g b o)).map (fun o => (b, o)))
theorem ids_mem {g : Nat → Bool} {b o : Nat} : (b, o) ∈ ids g ↔ b < 12 ∧ o < 28 ∧ liveB g b o = true := by
  simp [ids, List.mem_flatMap, List.mem_map, List.mem_filter, List.mem_range]
/-- a whole state stands at b -/
def sB (g : Nat → Bool) (b : Nat) : Prop := b < 3 ∨ (3 ≤ b ∧ b < 11 ∧ g (b - 3) = true)
def tB (g : Nat → Bool) (b : Nat) : Prop := sB g b ∨ b = 11
theorem sB_0 {g : Nat → Bool} : sB g 0 := Or.inl (by decide)
theorem sB_1 {g : Nat → Bool} : sB g 1 := Or.inl (by decide)
theorem sB_2 {g : Nat → Bool} : sB g 2 := Or.inl (by decide)
theorem tB_11 {g : Nat → Bool} : tB g 11 := Or.inr rfl
theorem in_s {g : Nat → Bool} {b o : Nat} (h : sB g b) (ho : o < 14) : (b, o) ∈ ids g := by
  rw [ids_mem]
  rcases h with h | ⟨h1, h2, h3⟩
  · refine ⟨by omega, by omega, ?_⟩
    simp [liveB, h, ho]
  · refine ⟨by omega, by omega, ?_⟩
    simp [liveB, h1, h2, h3, ho]
theorem in_t {g : Nat → Bool} {b o : Nat} (h : tB g b) (h9 : 9 ≤ o) (ho : o < 14) : (b, o) ∈ ids g := by
  rcases h with h | h
  · exact in_s h ho
  · subst h
    rw [ids_mem]
    refine ⟨by omega, by omega, ?_⟩
    simp [liveB, h9, ho]
theorem in_r {g : Nat → Bool} {o : Nat} (h1 : 14 ≤ o) (h2 : o < 28) : (0, o) ∈ ids g := by
  rw [ids_mem]
  refine ⟨by omega, by omega, ?_⟩
  simp [liveB, h1]
theorem up2_s (μ : CM) (b o : Nat) (f : Nat → Int32) : up2 μ b o f b o = f := by simp [up2]
theorem up2_n {μ : CM} {b o b2 o2 : Nat} {f : Nat → Int32} (h : ¬ (b2 = b ∧ o2 = o)) : up2 μ b o f b2 o2 = μ b2 o2 := by simp [up2, h]
theorem up1_s (μ : MM) (i : Nat) (f : Nat → Int32) : up1 μ i f i = f := by simp [up1]
theorem up1_n {μ : MM} {i j : Nat} {f : Nat → Int32} (h : ¬ j = i) : up1 μ i f j = μ j := by simp [up1, h]
theorem cE_arr {Z : ZT} {A : Nat × Nat → Nat} {g : Nat → Bool} {μ : CM} {b o n : Nat} (h : aLen o = some n) : cE Z A g μ (b, o) = .inl (zI Z, n, .inl (μ b o)) := by
  unfold aLen at h
  split at h <;> first | (cases h; rfl) | cases h
theorem cE_lt {o n : Nat} (h : aLen o = some n) : o < 28 := by
  unfold aLen at h
  split at h <;> first | omega | cases h
theorem cEo_cong {Z : ZT} {A : Nat × Nat → Nat} {g : Nat → Bool} {μ ν : CM} {b o : Nat} (h : μ b o = ν b o) : cEo Z A g μ b o = cEo Z A g ν b o := by
  unfold cEo
  split <;> first | rfl | (rw [h])
theorem cE_up {Z : ZT} {A : Nat × Nat → Nat} {g : Nat → Bool} {μ : CM} {b o : Nat} {f : Nat → Int32} (y : Nat × Nat) (h : y ≠ (b, o)) : cE Z A g (up2 μ b o f) y = cE Z A g μ y := by
  obtain ⟨b2, o2⟩ := y
  exact cEo_cong (up2_n (fun z => h (Prod.ext z.1 z.2)))
theorem cE_upA {Z : ZT} {A : Nat × Nat → Nat} {g : Nat → Bool} {μ : CM} {b o n : Nat} {f : Nat → Int32} (h : aLen o = some n) : cE Z A g (up2 μ b o f) (b, o) = .inl (zI Z, n, .inl f) := by
  rw [cE_arr h, up2_s]
/-! THE MODEL'S WORLD: 0 the object, 1..12 its rows -/
def mLen : Nat → Nat
  | 1 => 1357
  | 2 => 1357
  | 3 => 1357
  | 4 => 1357
  | 5 => 10856
  | 6 => 160
  | 7 => 160
  | 8 => 60
  | 9 => 80
  | 10 => 12
  | 11 => 63
  | 12 => 13
  | _ => 0
def mE (Z : ZT) (A : Nat → Nat) (μ : MM) : Nat → va_E
  | 0 => .inr (11, [.int (μ 0 0), .int (μ 0 1), .int (μ 0 2), .int (μ 0 3), .int (μ 0 4), .ref (A 1), .ref (A 2), .ref (A 3), .ref (A 4), .ref (A 5), .ref (A 6), .ref (A 7), .ref (A 8), .ref (A 9), .ref (A 10), .ref (A 11), .ref (A 12), .int (μ 0 17), .int (μ 0 18), .int (μ 0 19), .int (μ 0 20), .int (μ 0 21), .int (μ 0 22)])
  | i + 1 => .inl (zI Z, mLen (i + 1), .inl (μ (i + 1)))
abbrev mds : List Nat := List.range 13
theorem mE_arr {Z : ZT} {A : Nat → Nat} {μ : MM} {i : Nat} (h : 0 < i) : mE Z A μ i = .inl (zI Z, mLen i, .inl (μ i)) := by
  cases i with
  | zero => omega
  | succ i => rfl
theorem mE_up {Z : ZT} {A : Nat → Nat} {μ : MM} {i : Nat} {f : Nat → Int32} (y : Nat) (h : y ≠ i) : mE Z A (up1 μ i f) y = mE Z A μ y := by
  cases y with
  | zero => simp only [mE]; rw [up1_n h]
  | succ y => simp only [mE]; rw [up1_n h]
theorem in_RX0 : ∀ w ∈ u_ws RX0 TX0 3, w ∈ GT := by
  intro w hw
  obtain ⟨k, hk, rfl⟩ := List.mem_map.mp hw
  have hk := List.mem_range.mp hk
  match k, hk with
  | 0, _ => exact g_86
  | 1, _ => exact g_88
  | 2, _ => exact g_90
  | k + 3, h => omega
theorem in_RX1 : ∀ w ∈ u_ws RX1 TX1 6, w ∈ GT := by
  intro w hw
  obtain ⟨k, hk, rfl⟩ := List.mem_map.mp hw
  have hk := List.mem_range.mp hk
  match k, hk with
  | 0, _ => exact g_214
  | 1, _ => exact g_216
  | 2, _ => exact g_218
  | 3, _ => exact g_220
  | 4, _ => exact g_222
  | 5, _ => exact g_224
  | k + 6, h => omega
theorem in_RX2 : ∀ w ∈ u_ws RX2 TX2 3, w ∈ GT := by
  intro w hw
  obtain ⟨k, hk, rfl⟩ := List.mem_map.mp hw
  have hk := List.mem_range.mp hk
  match k, hk with
  | 0, _ => exact g_175
  | 1, _ => exact g_177
  | 2, _ => exact g_179
  | k + 3, h => omega
theorem in_RX3 : ∀ w ∈ u_ws RX3 TX3 2, w ∈ GT := by
  intro w hw
  obtain ⟨k, hk, rfl⟩ := List.mem_map.mp hw
  have hk := List.mem_range.mp hk
  match k, hk with
  | 0, _ => exact g_236
  | 1, _ => exact g_238
  | k + 2, h => omega
theorem in_RX4 : ∀ w ∈ u_ws RX4 TX4 3, w ∈ GT := by
  intro w hw
  obtain ⟨k, hk, rfl⟩ := List.mem_map.mp hw
  have hk := List.mem_range.mp hk
  match k, hk with
  | 0, _ => exact g_191
  | 1, _ => exact g_193
  | 2, _ => exact g_195
  | k + 3, h => omega
theorem in_RX5 : ∀ w ∈ u_ws RX5 TX5 4, w ∈ GT := by
  intro w hw
  obtain ⟨k, hk, rfl⟩ := List.mem_map.mp hw
  have hk := List.mem_range.mp hk
  match k, hk with
  | 0, _ => exact g_104
  | 1, _ => exact g_106
  | 2, _ => exact g_108
  | 3, _ => exact g_110
  | k + 4, h => omega
theorem in_RX6 : ∀ w ∈ u_ws RX6 TX6 3, w ∈ GT := by
  intro w hw
  obtain ⟨k, hk, rfl⟩ := List.mem_map.mp hw
  have hk := List.mem_range.mp hk
  match k, hk with
  | 0, _ => exact g_156
  | 1, _ => exact g_158
  | 2, _ => exact g_160
  | k + 3, h => omega
theorem in_RX7 : ∀ w ∈ u_ws RX7 TX7 8, w ∈ GT := by
  intro w hw
  obtain ⟨k, hk, rfl⟩ := List.mem_map.mp hw
  have hk := List.mem_range.mp hk
  match k, hk with
  | 0, _ => exact g_131
  | 1, _ => exact g_133
  | 2, _ => exact g_135
  | 3, _ => exact g_137
  | 4, _ => exact g_139
  | 5, _ => exact g_141
  | 6, _ => exact g_143
  | 7, _ => exact g_145
  | k + 8, h => omega
theorem in_RX9 : ∀ w ∈ u_ws RX9 TX9 12, w ∈ GT := by
  intro w hw
  obtain ⟨k, hk, rfl⟩ := List.mem_map.mp hw
  have hk := List.mem_range.mp hk
  match k, hk with
  | 0, _ => exact g_253
  | 1, _ => exact g_255
  | 2, _ => exact g_257
  | 3, _ => exact g_259
  | 4, _ => exact g_261
  | 5, _ => exact g_263
  | 6, _ => exact g_265
  | 7, _ => exact g_267
  | 8, _ => exact g_269
  | 9, _ => exact g_271
  | 10, _ => exact g_273
  | 11, _ => exact g_275
  | k + 12, h => omega
section GF
variable {p : Program} {l : Launch} {e : Env} {R : Room} {s : State} {m : MethodId} {args : Array Value} {below : List Frame} {meth : Method} {c : Code} {H : Heap} {locs : List Loc} {cells slots : Nat} {Q : State → Prop}
variable {Z : ZT} {A : Nat × Nat → Nat} {g : Nat → Bool} {μ : CM} {B : Nat → Nat} {ν : MM} {A0 : Nat → Prop} {cc : ByteArray} {nL pc : Nat} {ls : Array Slot} {rest : List Value}
theorem gf_X0_9 (S : CallFix p m c cc nL s args GT RX0) (hW : wX Z (ids g) A (cE Z A g μ) A0 s H locs) {b : Nat} (hb : sB g b) (hd : decode cc pc = .ok (.getfield 9, 3)) (k : W p l e R s m args below meth c H locs cells slots Q (F0 m (pc + 3) ls (.ref (A (b, 2)) :: rest))) : W p l e R s m args below meth c H locs cells slots Q (F0 m pc ls (.ref (A (b, 1)) :: rest)) :=
  r_get S hW (in_s hb (by decide)) rfl rfl in_RX0 0 (by decide) g_81 rfl hd k
theorem gf_X0_15 (S : CallFix p m c cc nL s args GT RX0) (hW : wX Z (ids g) A (cE Z A g μ) A0 s H locs) {b : Nat} (hb : sB g b) (hd : decode cc pc = .ok (.getfield 15, 3)) (k : W p l e R s m args below meth c H locs cells slots Q (F0 m (pc + 3) ls (.ref (A (b, 3)) :: rest))) : W p l e R s m args below meth c H locs cells slots Q (F0 m pc ls (.ref (A (b, 1)) :: rest)) :=
  r_get S hW (in_s hb (by decide)) rfl rfl in_RX0 1 (by decide) g_82 rfl hd k
theorem gf_X0_18 (S : CallFix p m c cc nL s args GT RX0) (hW : wX Z (ids g) A (cE Z A g μ) A0 s H locs) {b : Nat} (hb : sB g b) (hd : decode cc pc = .ok (.getfield 18, 3)) (k : W p l e R s m args below meth c H locs cells slots Q (F0 m (pc + 3) ls (.int (μ b 1 2) :: rest))) : W p l e R s m args below meth c H locs cells slots Q (F0 m pc ls (.ref (A (b, 1)) :: rest)) :=
  r_get S hW (in_s hb (by decide)) rfl rfl in_RX0 2 (by decide) g_83 rfl hd k
theorem gf_X1_9 (S : CallFix p m c cc nL s args GT RX1) (hW : wX Z (ids g) A (cE Z A g μ) A0 s H locs) (hd : decode cc pc = .ok (.getfield 9, 3)) (k : W p l e R s m args below meth c H locs cells slots Q (F0 m (pc + 3) ls (.ref (A (0, 23)) :: rest))) : W p l e R s m args below meth c H locs cells slots Q (F0 m pc ls (.ref (A (0, 22)) :: rest)) :=
  r_get S hW (in_r (by decide) (by decide)) rfl rfl in_RX1 0 (by decide) g_206 rfl hd k
theorem gf_X1_15 (S : CallFix p m c cc nL s args GT RX1) (hW : wX Z (ids g) A (cE Z A g μ) A0 s H locs) (hd : decode cc pc = .ok (.getfield 15, 3)) (k : W p l e R s m args below meth c H locs cells slots Q (F0 m (pc + 3) ls (.int (μ 0 22 1) :: rest))) : W p l e R s m args below meth c H locs cells slots Q (F0 m pc ls (.ref (A (0, 22)) :: rest)) :=
  r_get S hW (in_r (by decide) (by decide)) rfl rfl in_RX1 1 (by decide) g_207 rfl hd k
theorem gf_X1_19 (S : CallFix p m c cc nL s args GT RX1) (hW : wX Z (ids g) A (cE Z A g μ) A0 s H locs) (hd : decode cc pc = .ok (.getfield 19, 3)) (k : W p l e R s m args below meth c H locs cells slots Q (F0 m (pc + 3) ls (.ref (A (0, 24)) :: rest))) : W p l e R s m args below meth c H locs cells slots Q (F0 m pc ls (.ref (A (0, 22)) :: rest)) :=
  r_get S hW (in_r (by decide) (by decide)) rfl rfl in_RX1 2 (by decide) g_208 rfl hd k
theorem gf_X1_22 (S : CallFix p m c cc nL s args GT RX1) (hW : wX Z (ids g) A (cE Z A g μ) A0 s H locs) (hd : decode cc pc = .ok (.getfield 22, 3)) (k : W p l e R s m args below meth c H locs cells slots Q (F0 m (pc + 3) ls (.ref (A (0, 25)) :: rest))) : W p l e R s m args below meth c H locs cells slots Q (F0 m pc ls (.ref (A (0, 22)) :: rest)) :=
  r_get S hW (in_r (by decide) (by decide)) rfl rfl in_RX1 3 (by decide) g_209 rfl hd k
theorem gf_X1_25 (S : CallFix p m c cc nL s args GT RX1) (hW : wX Z (ids g) A (cE Z A g μ) A0 s H locs) (hd : decode cc pc = .ok (.getfield 25, 3)) (k : W p l e R s m args below meth c H locs cells slots Q (F0 m (pc + 3) ls (.int (μ 0 22 4) :: rest))) : W p l e R s m args below meth c H locs cells slots Q (F0 m pc ls (.ref (A (0, 22)) :: rest)) :=
  r_get S hW (in_r (by decide) (by decide)) rfl rfl in_RX1 4 (by decide) g_210 rfl hd k
theorem gf_X1_28 (S : CallFix p m c cc nL s args GT RX1) (hW : wX Z (ids g) A (cE Z A g μ) A0 s H locs) (hd : decode cc pc = .ok (.getfield 28, 3)) (k : W p l e R s m args below meth c H locs cells slots Q (F0 m (pc + 3) ls (.int (μ 0 22 5) :: rest))) : W p l e R s m args below meth c H locs cells slots Q (F0 m pc ls (.ref (A (0, 22)) :: rest)) :=
  r_get S hW (in_r (by decide) (by decide)) rfl rfl in_RX1 5 (by decide) g_212 rfl hd k
theorem gf_X2_11 (S : CallFix p m c cc nL s args GT RX2) (hW : wX Z (ids g) A (cE Z A g μ) A0 s H locs) (hd : decode cc pc = .ok (.getfield 11, 3)) (k : W p l e R s m args below meth c H locs cells slots Q (F0 m (pc + 3) ls (.ref (A (0, 16)) :: rest))) : W p l e R s m args below meth c H locs cells slots Q (F0 m pc ls (.ref (A (0, 15)) :: rest)) :=
  r_get S hW (in_r (by decide) (by decide)) rfl rfl in_RX2 0 (by decide) g_171 rfl hd k
theorem gf_X2_17 (S : CallFix p m c cc nL s args GT RX2) (hW : wX Z (ids g) A (cE Z A g μ) A0 s H locs) (hd : decode cc pc = .ok (.getfield 17, 3)) (k : W p l e R s m args below meth c H locs cells slots Q (F0 m (pc + 3) ls (.int (μ 0 15 1) :: rest))) : W p l e R s m args below meth c H locs cells slots Q (F0 m pc ls (.ref (A (0, 15)) :: rest)) :=
  r_get S hW (in_r (by decide) (by decide)) rfl rfl in_RX2 1 (by decide) g_172 rfl hd k
theorem gf_X2_21 (S : CallFix p m c cc nL s args GT RX2) (hW : wX Z (ids g) A (cE Z A g μ) A0 s H locs) (hd : decode cc pc = .ok (.getfield 21, 3)) (k : W p l e R s m args below meth c H locs cells slots Q (F0 m (pc + 3) ls (.int (μ 0 15 2) :: rest))) : W p l e R s m args below meth c H locs cells slots Q (F0 m pc ls (.ref (A (0, 15)) :: rest)) :=
  r_get S hW (in_r (by decide) (by decide)) rfl rfl in_RX2 2 (by decide) g_173 rfl hd k
theorem gf_X3_9 (S : CallFix p m c cc nL s args GT RX3) (hW : wX Z (ids g) A (cE Z A g μ) A0 s H locs) (hd : decode cc pc = .ok (.getfield 9, 3)) (k : W p l e R s m args below meth c H locs cells slots Q (F0 m (pc + 3) ls (.ref (A (0, 27)) :: rest))) : W p l e R s m args below meth c H locs cells slots Q (F0 m pc ls (.ref (A (0, 26)) :: rest)) :=
  r_get S hW (in_r (by decide) (by decide)) rfl rfl in_RX3 0 (by decide) g_233 rfl hd k
theorem gf_X3_15 (S : CallFix p m c cc nL s args GT RX3) (hW : wX Z (ids g) A (cE Z A g μ) A0 s H locs) (hd : decode cc pc = .ok (.getfield 15, 3)) (k : W p l e R s m args below meth c H locs cells slots Q (F0 m (pc + 3) ls (.int (μ 0 26 1) :: rest))) : W p l e R s m args below meth c H locs cells slots Q (F0 m pc ls (.ref (A (0, 26)) :: rest)) :=
  r_get S hW (in_r (by decide) (by decide)) rfl rfl in_RX3 1 (by decide) g_234 rfl hd k
theorem gf_X4_9 (S : CallFix p m c cc nL s args GT RX4) (hW : wX Z (ids g) A (cE Z A g μ) A0 s H locs) (hd : decode cc pc = .ok (.getfield 9, 3)) (k : W p l e R s m args below meth c H locs cells slots Q (F0 m (pc + 3) ls (.ref (A (0, 18)) :: rest))) : W p l e R s m args below meth c H locs cells slots Q (F0 m pc ls (.ref (A (0, 17)) :: rest)) :=
  r_get S hW (in_r (by decide) (by decide)) rfl rfl in_RX4 0 (by decide) g_188 rfl hd k
theorem gf_X4_15 (S : CallFix p m c cc nL s args GT RX4) (hW : wX Z (ids g) A (cE Z A g μ) A0 s H locs) (hd : decode cc pc = .ok (.getfield 15, 3)) (k : W p l e R s m args below meth c H locs cells slots Q (F0 m (pc + 3) ls (.ref (A (0, 19)) :: rest))) : W p l e R s m args below meth c H locs cells slots Q (F0 m pc ls (.ref (A (0, 17)) :: rest)) :=
  r_get S hW (in_r (by decide) (by decide)) rfl rfl in_RX4 1 (by decide) g_189 rfl hd k
theorem gf_X4_18 (S : CallFix p m c cc nL s args GT RX4) (hW : wX Z (ids g) A (cE Z A g μ) A0 s H locs) (hd : decode cc pc = .ok (.getfield 18, 3)) (k : W p l e R s m args below meth c H locs cells slots Q (F0 m (pc + 3) ls (.ref (A (0, 20)) :: rest))) : W p l e R s m args below meth c H locs cells slots Q (F0 m pc ls (.ref (A (0, 17)) :: rest)) :=
  r_get S hW (in_r (by decide) (by decide)) rfl rfl in_RX4 2 (by decide) g_190 rfl hd k
theorem gf_X4_31 (S : CallFix p m c cc nL s args GT RX4) (hW : wX Z (ids g) A (cE Z A g μ) A0 s H locs) {b : Nat} (hb : sB g b) (hd : decode cc pc = .ok (.getfield 31, 3)) (k : W p l e R s m args below meth c H locs cells slots Q (F0 m (pc + 3) ls (.ref (A (b, 4)) :: rest))) : W p l e R s m args below meth c H locs cells slots Q (F0 m pc ls (.ref (A (b, 0)) :: rest)) :=
  r_get S hW (in_s hb (by decide)) rfl rfl in_RX6 1 (by decide) g_152 rfl hd k
theorem gf_X4_43 (S : CallFix p m c cc nL s args GT RX4) (hW : wX Z (ids g) A (cE Z A g μ) A0 s H locs) {b : Nat} (hb : sB g b) (hd : decode cc pc = .ok (.getfield 43, 3)) (k : W p l e R s m args below meth c H locs cells slots Q (F0 m (pc + 3) ls (.ref (A (b, 1)) :: rest))) : W p l e R s m args below meth c H locs cells slots Q (F0 m pc ls (.ref (A (b, 0)) :: rest)) :=
  r_get S hW (in_s hb (by decide)) rfl rfl in_RX6 0 (by decide) g_150 rfl hd k
theorem gf_X4_47 (S : CallFix p m c cc nL s args GT RX4) (hW : wX Z (ids g) A (cE Z A g μ) A0 s H locs) {b : Nat} (hb : sB g b) (hd : decode cc pc = .ok (.getfield 47, 3)) (k : W p l e R s m args below meth c H locs cells slots Q (F0 m (pc + 3) ls (.int (μ b 1 2) :: rest))) : W p l e R s m args below meth c H locs cells slots Q (F0 m pc ls (.ref (A (b, 1)) :: rest)) :=
  r_get S hW (in_s hb (by decide)) rfl rfl in_RX0 2 (by decide) g_85 rfl hd k
theorem gf_X5_9 (S : CallFix p m c cc nL s args GT RX5) (hW : wX Z (ids g) A (cE Z A g μ) A0 s H locs) {b : Nat} (hb : sB g b) (hd : decode cc pc = .ok (.getfield 9, 3)) (k : W p l e R s m args below meth c H locs cells slots Q (F0 m (pc + 3) ls (.ref (A (b, 5)) :: rest))) : W p l e R s m args below meth c H locs cells slots Q (F0 m pc ls (.ref (A (b, 4)) :: rest)) :=
  r_get S hW (in_s hb (by decide)) rfl rfl in_RX5 0 (by decide) g_100 rfl hd k
theorem gf_X5_15 (S : CallFix p m c cc nL s args GT RX5) (hW : wX Z (ids g) A (cE Z A g μ) A0 s H locs) {b : Nat} (hb : sB g b) (hd : decode cc pc = .ok (.getfield 15, 3)) (k : W p l e R s m args below meth c H locs cells slots Q (F0 m (pc + 3) ls (.ref (A (b, 6)) :: rest))) : W p l e R s m args below meth c H locs cells slots Q (F0 m pc ls (.ref (A (b, 4)) :: rest)) :=
  r_get S hW (in_s hb (by decide)) rfl rfl in_RX5 1 (by decide) g_101 rfl hd k
theorem gf_X5_18 (S : CallFix p m c cc nL s args GT RX5) (hW : wX Z (ids g) A (cE Z A g μ) A0 s H locs) {b : Nat} (hb : sB g b) (hd : decode cc pc = .ok (.getfield 18, 3)) (k : W p l e R s m args below meth c H locs cells slots Q (F0 m (pc + 3) ls (.ref (A (b, 7)) :: rest))) : W p l e R s m args below meth c H locs cells slots Q (F0 m pc ls (.ref (A (b, 4)) :: rest)) :=
  r_get S hW (in_s hb (by decide)) rfl rfl in_RX5 2 (by decide) g_102 rfl hd k
theorem gf_X5_21 (S : CallFix p m c cc nL s args GT RX5) (hW : wX Z (ids g) A (cE Z A g μ) A0 s H locs) {b : Nat} (hb : sB g b) (hd : decode cc pc = .ok (.getfield 21, 3)) (k : W p l e R s m args below meth c H locs cells slots Q (F0 m (pc + 3) ls (.ref (A (b, 8)) :: rest))) : W p l e R s m args below meth c H locs cells slots Q (F0 m pc ls (.ref (A (b, 4)) :: rest)) :=
  r_get S hW (in_s hb (by decide)) rfl rfl in_RX5 3 (by decide) g_103 rfl hd k
theorem gf_X6_10 (S : CallFix p m c cc nL s args GT RX6) (hW : wX Z (ids g) A (cE Z A g μ) A0 s H locs) {b : Nat} (hb : sB g b) (hd : decode cc pc = .ok (.getfield 10, 3)) (k : W p l e R s m args below meth c H locs cells slots Q (F0 m (pc + 3) ls (.ref (A (b, 1)) :: rest))) : W p l e R s m args below meth c H locs cells slots Q (F0 m pc ls (.ref (A (b, 0)) :: rest)) :=
  r_get S hW (in_s hb (by decide)) rfl rfl in_RX6 0 (by decide) g_148 rfl hd k
theorem gf_X6_19 (S : CallFix p m c cc nL s args GT RX6) (hW : wX Z (ids g) A (cE Z A g μ) A0 s H locs) {b : Nat} (hb : sB g b) (hd : decode cc pc = .ok (.getfield 19, 3)) (k : W p l e R s m args below meth c H locs cells slots Q (F0 m (pc + 3) ls (.ref (A (b, 4)) :: rest))) : W p l e R s m args below meth c H locs cells slots Q (F0 m pc ls (.ref (A (b, 0)) :: rest)) :=
  r_get S hW (in_s hb (by decide)) rfl rfl in_RX6 1 (by decide) g_151 rfl hd k
theorem gf_X6_26 (S : CallFix p m c cc nL s args GT RX6) (hW : wX Z (ids g) A (cE Z A g μ) A0 s H locs) {b : Nat} (hb : sB g b) (hd : decode cc pc = .ok (.getfield 26, 3)) (k : W p l e R s m args below meth c H locs cells slots Q (F0 m (pc + 3) ls (.ref (A (b, 9)) :: rest))) : W p l e R s m args below meth c H locs cells slots Q (F0 m pc ls (.ref (A (b, 0)) :: rest)) :=
  r_get S hW (in_s hb (by decide)) rfl rfl in_RX6 2 (by decide) g_154 rfl hd k
theorem gf_X7_9 (S : CallFix p m c cc nL s args GT RX7) (hW : wX Z (ids g) A (cE Z A g μ) A0 s H locs) {b : Nat} (hb : tB g b) (hd : decode cc pc = .ok (.getfield 9, 3)) (k : W p l e R s m args below meth c H locs cells slots Q (F0 m (pc + 3) ls (.ref (A (b, 10)) :: rest))) : W p l e R s m args below meth c H locs cells slots Q (F0 m pc ls (.ref (A (b, 9)) :: rest)) :=
  r_get S hW (in_t hb (by decide) (by decide)) rfl rfl in_RX7 0 (by decide) g_119 rfl hd k
theorem gf_X7_15 (S : CallFix p m c cc nL s args GT RX7) (hW : wX Z (ids g) A (cE Z A g μ) A0 s H locs) {b : Nat} (hb : tB g b) (hd : decode cc pc = .ok (.getfield 15, 3)) (k : W p l e R s m args below meth c H locs cells slots Q (F0 m (pc + 3) ls (.ref (A (b, 11)) :: rest))) : W p l e R s m args below meth c H locs cells slots Q (F0 m pc ls (.ref (A (b, 9)) :: rest)) :=
  r_get S hW (in_t hb (by decide) (by decide)) rfl rfl in_RX7 1 (by decide) g_120 rfl hd k
theorem gf_X7_18 (S : CallFix p m c cc nL s args GT RX7) (hW : wX Z (ids g) A (cE Z A g μ) A0 s H locs) {b : Nat} (hb : tB g b) (hd : decode cc pc = .ok (.getfield 18, 3)) (k : W p l e R s m args below meth c H locs cells slots Q (F0 m (pc + 3) ls (.ref (A (b, 12)) :: rest))) : W p l e R s m args below meth c H locs cells slots Q (F0 m pc ls (.ref (A (b, 9)) :: rest)) :=
  r_get S hW (in_t hb (by decide) (by decide)) rfl rfl in_RX7 2 (by decide) g_121 rfl hd k
theorem gf_X7_21 (S : CallFix p m c cc nL s args GT RX7) (hW : wX Z (ids g) A (cE Z A g μ) A0 s H locs) {b : Nat} (hb : tB g b) (hd : decode cc pc = .ok (.getfield 21, 3)) (k : W p l e R s m args below meth c H locs cells slots Q (F0 m (pc + 3) ls (.ref (A (b, 13)) :: rest))) : W p l e R s m args below meth c H locs cells slots Q (F0 m pc ls (.ref (A (b, 9)) :: rest)) :=
  r_get S hW (in_t hb (by decide) (by decide)) rfl rfl in_RX7 3 (by decide) g_122 rfl hd k
theorem gf_X7_24 (S : CallFix p m c cc nL s args GT RX7) (hW : wX Z (ids g) A (cE Z A g μ) A0 s H locs) {b : Nat} (hb : tB g b) (hd : decode cc pc = .ok (.getfield 24, 3)) (k : W p l e R s m args below meth c H locs cells slots Q (F0 m (pc + 3) ls (.int (μ b 9 4) :: rest))) : W p l e R s m args below meth c H locs cells slots Q (F0 m pc ls (.ref (A (b, 9)) :: rest)) :=
  r_get S hW (in_t hb (by decide) (by decide)) rfl rfl in_RX7 4 (by decide) g_123 rfl hd k
theorem gf_X7_28 (S : CallFix p m c cc nL s args GT RX7) (hW : wX Z (ids g) A (cE Z A g μ) A0 s H locs) {b : Nat} (hb : tB g b) (hd : decode cc pc = .ok (.getfield 28, 3)) (k : W p l e R s m args below meth c H locs cells slots Q (F0 m (pc + 3) ls (.int (μ b 9 5) :: rest))) : W p l e R s m args below meth c H locs cells slots Q (F0 m pc ls (.ref (A (b, 9)) :: rest)) :=
  r_get S hW (in_t hb (by decide) (by decide)) rfl rfl in_RX7 5 (by decide) g_125 rfl hd k
theorem gf_X7_31 (S : CallFix p m c cc nL s args GT RX7) (hW : wX Z (ids g) A (cE Z A g μ) A0 s H locs) {b : Nat} (hb : tB g b) (hd : decode cc pc = .ok (.getfield 31, 3)) (k : W p l e R s m args below meth c H locs cells slots Q (F0 m (pc + 3) ls (.int (μ b 9 6) :: rest))) : W p l e R s m args below meth c H locs cells slots Q (F0 m pc ls (.ref (A (b, 9)) :: rest)) :=
  r_get S hW (in_t hb (by decide) (by decide)) rfl rfl in_RX7 6 (by decide) g_127 rfl hd k
theorem gf_X7_34 (S : CallFix p m c cc nL s args GT RX7) (hW : wX Z (ids g) A (cE Z A g μ) A0 s H locs) {b : Nat} (hb : tB g b) (hd : decode cc pc = .ok (.getfield 34, 3)) (k : W p l e R s m args below meth c H locs cells slots Q (F0 m (pc + 3) ls (.int (μ b 9 7) :: rest))) : W p l e R s m args below meth c H locs cells slots Q (F0 m pc ls (.ref (A (b, 9)) :: rest)) :=
  r_get S hW (in_t hb (by decide) (by decide)) rfl rfl in_RX7 7 (by decide) g_129 rfl hd k
theorem gf_X9_10 (S : CallFix p m c cc nL s args GT RX9) (hW : wX Z (ids g) A (cE Z A g μ) A0 s H locs) (hd : decode cc pc = .ok (.getfield 10, 3)) (k : W p l e R s m args below meth c H locs cells slots Q (F0 m (pc + 3) ls (.ref (A (0, 0)) :: rest))) : W p l e R s m args below meth c H locs cells slots Q (F0 m pc ls (.ref (A (0, 14)) :: rest)) :=
  r_get S hW (in_r (by decide) (by decide)) rfl rfl in_RX9 0 (by decide) g_241 rfl hd k
theorem gf_X9_16 (S : CallFix p m c cc nL s args GT RX9) (hW : wX Z (ids g) A (cE Z A g μ) A0 s H locs) (hd : decode cc pc = .ok (.getfield 16, 3)) (k : W p l e R s m args below meth c H locs cells slots Q (F0 m (pc + 3) ls (.ref (A (1, 0)) :: rest))) : W p l e R s m args below meth c H locs cells slots Q (F0 m pc ls (.ref (A (0, 14)) :: rest)) :=
  r_get S hW (in_r (by decide) (by decide)) rfl rfl in_RX9 1 (by decide) g_242 rfl hd k
theorem gf_X9_19 (S : CallFix p m c cc nL s args GT RX9) (hW : wX Z (ids g) A (cE Z A g μ) A0 s H locs) (hd : decode cc pc = .ok (.getfield 19, 3)) (k : W p l e R s m args below meth c H locs cells slots Q (F0 m (pc + 3) ls (.ref (A (2, 0)) :: rest))) : W p l e R s m args below meth c H locs cells slots Q (F0 m pc ls (.ref (A (0, 14)) :: rest)) :=
  r_get S hW (in_r (by decide) (by decide)) rfl rfl in_RX9 2 (by decide) g_243 rfl hd k
theorem gf_X9_25 (S : CallFix p m c cc nL s args GT RX9) (hW : wX Z (ids g) A (cE Z A g μ) A0 s H locs) (hd : decode cc pc = .ok (.getfield 25, 3)) (k : W p l e R s m args below meth c H locs cells slots Q (F0 m (pc + 3) ls (.ref (A (0, 15)) :: rest))) : W p l e R s m args below meth c H locs cells slots Q (F0 m pc ls (.ref (A (0, 14)) :: rest)) :=
  r_get S hW (in_r (by decide) (by decide)) rfl rfl in_RX9 3 (by decide) g_244 rfl hd k
theorem gf_X9_32 (S : CallFix p m c cc nL s args GT RX9) (hW : wX Z (ids g) A (cE Z A g μ) A0 s H locs) (hd : decode cc pc = .ok (.getfield 32, 3)) (k : W p l e R s m args below meth c H locs cells slots Q (F0 m (pc + 3) ls (.ref (A (0, 17)) :: rest))) : W p l e R s m args below meth c H locs cells slots Q (F0 m pc ls (.ref (A (0, 14)) :: rest)) :=
  r_get S hW (in_r (by decide) (by decide)) rfl rfl in_RX9 4 (by decide) g_245 rfl hd k
theorem gf_X9_39 (S : CallFix p m c cc nL s args GT RX9) (hW : wX Z (ids g) A (cE Z A g μ) A0 s H locs) (hd : decode cc pc = .ok (.getfield 39, 3)) (k : W p l e R s m args below meth c H locs cells slots Q (F0 m (pc + 3) ls (.ref (A (11, 9)) :: rest))) : W p l e R s m args below meth c H locs cells slots Q (F0 m pc ls (.ref (A (0, 14)) :: rest)) :=
  r_get S hW (in_r (by decide) (by decide)) rfl rfl in_RX9 5 (by decide) g_246 rfl hd k
theorem gf_X9_43 (S : CallFix p m c cc nL s args GT RX9) (hW : wX Z (ids g) A (cE Z A g μ) A0 s H locs) (hd : decode cc pc = .ok (.getfield 43, 3)) (k : W p l e R s m args below meth c H locs cells slots Q (F0 m (pc + 3) ls (.ref (A (0, 21)) :: rest))) : W p l e R s m args below meth c H locs cells slots Q (F0 m pc ls (.ref (A (0, 14)) :: rest)) :=
  r_get S hW (in_r (by decide) (by decide)) rfl rfl in_RX9 6 (by decide) g_247 rfl hd k
theorem gf_X9_50 (S : CallFix p m c cc nL s args GT RX9) (hW : wX Z (ids g) A (cE Z A g μ) A0 s H locs) (hd : decode cc pc = .ok (.getfield 50, 3)) (k : W p l e R s m args below meth c H locs cells slots Q (F0 m (pc + 3) ls (.ref (A (0, 22)) :: rest))) : W p l e R s m args below meth c H locs cells slots Q (F0 m pc ls (.ref (A (0, 14)) :: rest)) :=
  r_get S hW (in_r (by decide) (by decide)) rfl rfl in_RX9 7 (by decide) g_248 rfl hd k
theorem gf_X9_57 (S : CallFix p m c cc nL s args GT RX9) (hW : wX Z (ids g) A (cE Z A g μ) A0 s H locs) (hd : decode cc pc = .ok (.getfield 57, 3)) (k : W p l e R s m args below meth c H locs cells slots Q (F0 m (pc + 3) ls (.ref (A (0, 26)) :: rest))) : W p l e R s m args below meth c H locs cells slots Q (F0 m pc ls (.ref (A (0, 14)) :: rest)) :=
  r_get S hW (in_r (by decide) (by decide)) rfl rfl in_RX9 8 (by decide) g_249 rfl hd k
theorem gf_X9_61 (S : CallFix p m c cc nL s args GT RX9) (hW : wX Z (ids g) A (cE Z A g μ) A0 s H locs) (hd : decode cc pc = .ok (.getfield 61, 3)) (k : W p l e R s m args below meth c H locs cells slots Q (F0 m (pc + 3) ls (.int (μ 0 14 9) :: rest))) : W p l e R s m args below meth c H locs cells slots Q (F0 m pc ls (.ref (A (0, 14)) :: rest)) :=
  r_get S hW (in_r (by decide) (by decide)) rfl rfl in_RX9 9 (by decide) g_250 rfl hd k
theorem gf_X9_65 (S : CallFix p m c cc nL s args GT RX9) (hW : wX Z (ids g) A (cE Z A g μ) A0 s H locs) (hd : decode cc pc = .ok (.getfield 65, 3)) (k : W p l e R s m args below meth c H locs cells slots Q (F0 m (pc + 3) ls (.int (μ 0 14 10) :: rest))) : W p l e R s m args below meth c H locs cells slots Q (F0 m pc ls (.ref (A (0, 14)) :: rest)) :=
  r_get S hW (in_r (by decide) (by decide)) rfl rfl in_RX9 10 (by decide) g_251 rfl hd k
theorem gf_X9_69 (S : CallFix p m c cc nL s args GT RX9) (hW : wX Z (ids g) A (cE Z A g μ) A0 s H locs) (hd : decode cc pc = .ok (.getfield 69, 3)) (k : W p l e R s m args below meth c H locs cells slots Q (F0 m (pc + 3) ls (.int (μ 0 14 11) :: rest))) : W p l e R s m args below meth c H locs cells slots Q (F0 m pc ls (.ref (A (0, 14)) :: rest)) :=
  r_get S hW (in_r (by decide) (by decide)) rfl rfl in_RX9 11 (by decide) g_252 rfl hd k
theorem gf_X9_72 (S : CallFix p m c cc nL s args GT RX9) (hW : wX Z (ids g) A (cE Z A g μ) A0 s H locs) {b : Nat} (hb : sB g b) (hd : decode cc pc = .ok (.getfield 72, 3)) (k : W p l e R s m args below meth c H locs cells slots Q (F0 m (pc + 3) ls (.ref (A (b, 1)) :: rest))) : W p l e R s m args below meth c H locs cells slots Q (F0 m pc ls (.ref (A (b, 0)) :: rest)) :=
  r_get S hW (in_s hb (by decide)) rfl rfl in_RX6 0 (by decide) g_149 rfl hd k
theorem gf_X9_90 (S : CallFix p m c cc nL s args GT RX9) (hW : wX Z (ids g) A (cE Z A g μ) A0 s H locs) {b : Nat} (hb : sB g b) (hd : decode cc pc = .ok (.getfield 90, 3)) (k : W p l e R s m args below meth c H locs cells slots Q (F0 m (pc + 3) ls (.int (μ b 1 2) :: rest))) : W p l e R s m args below meth c H locs cells slots Q (F0 m pc ls (.ref (A (b, 1)) :: rest)) :=
  r_get S hW (in_s hb (by decide)) rfl rfl in_RX0 2 (by decide) g_84 rfl hd k
theorem gf_X9_122 (S : CallFix p m c cc nL s args GT RX9) (hW : wX Z (ids g) A (cE Z A g μ) A0 s H locs) {b : Nat} (hb : sB g b) (hd : decode cc pc = .ok (.getfield 122, 3)) (k : W p l e R s m args below meth c H locs cells slots Q (F0 m (pc + 3) ls (.ref (A (b, 4)) :: rest))) : W p l e R s m args below meth c H locs cells slots Q (F0 m pc ls (.ref (A (b, 0)) :: rest)) :=
  r_get S hW (in_s hb (by decide)) rfl rfl in_RX6 1 (by decide) g_153 rfl hd k
theorem gf_X9_193 (S : CallFix p m c cc nL s args GT RX9) (hW : wX Z (ids g) A (cE Z A g μ) A0 s H locs) {b : Nat} (hb : sB g b) (hd : decode cc pc = .ok (.getfield 193, 3)) (k : W p l e R s m args below meth c H locs cells slots Q (F0 m (pc + 3) ls (.ref (A (b, 9)) :: rest))) : W p l e R s m args below meth c H locs cells slots Q (F0 m pc ls (.ref (A (b, 0)) :: rest)) :=
  r_get S hW (in_s hb (by decide)) rfl rfl in_RX6 2 (by decide) g_155 rfl hd k
theorem gf_X9_218 (S : CallFix p m c cc nL s args GT RX9) (hW : wX Z (ids g) A (cE Z A g μ) A0 s H locs) {b : Nat} (hb : tB g b) (hd : decode cc pc = .ok (.getfield 218, 3)) (k : W p l e R s m args below meth c H locs cells slots Q (F0 m (pc + 3) ls (.int (μ b 9 4) :: rest))) : W p l e R s m args below meth c H locs cells slots Q (F0 m pc ls (.ref (A (b, 9)) :: rest)) :=
  r_get S hW (in_t hb (by decide) (by decide)) rfl rfl in_RX7 4 (by decide) g_124 rfl hd k
theorem gf_X9_251 (S : CallFix p m c cc nL s args GT RX9) (hW : wX Z (ids g) A (cE Z A g μ) A0 s H locs) {b : Nat} (hb : tB g b) (hd : decode cc pc = .ok (.getfield 251, 3)) (k : W p l e R s m args below meth c H locs cells slots Q (F0 m (pc + 3) ls (.int (μ b 9 5) :: rest))) : W p l e R s m args below meth c H locs cells slots Q (F0 m pc ls (.ref (A (b, 9)) :: rest)) :=
  r_get S hW (in_t hb (by decide) (by decide)) rfl rfl in_RX7 5 (by decide) g_126 rfl hd k
theorem gf_X9_254 (S : CallFix p m c cc nL s args GT RX9) (hW : wX Z (ids g) A (cE Z A g μ) A0 s H locs) {b : Nat} (hb : tB g b) (hd : decode cc pc = .ok (.getfield 254, 3)) (k : W p l e R s m args below meth c H locs cells slots Q (F0 m (pc + 3) ls (.int (μ b 9 6) :: rest))) : W p l e R s m args below meth c H locs cells slots Q (F0 m pc ls (.ref (A (b, 9)) :: rest)) :=
  r_get S hW (in_t hb (by decide) (by decide)) rfl rfl in_RX7 6 (by decide) g_128 rfl hd k
theorem gf_X9_257 (S : CallFix p m c cc nL s args GT RX9) (hW : wX Z (ids g) A (cE Z A g μ) A0 s H locs) {b : Nat} (hb : tB g b) (hd : decode cc pc = .ok (.getfield 257, 3)) (k : W p l e R s m args below meth c H locs cells slots Q (F0 m (pc + 3) ls (.int (μ b 9 7) :: rest))) : W p l e R s m args below meth c H locs cells slots Q (F0 m pc ls (.ref (A (b, 9)) :: rest)) :=
  r_get S hW (in_t hb (by decide) (by decide)) rfl rfl in_RX7 7 (by decide) g_130 rfl hd k
theorem gf_X9_274 (S : CallFix p m c cc nL s args GT RX9) (hW : wX Z (ids g) A (cE Z A g μ) A0 s H locs) (hd : decode cc pc = .ok (.getfield 274, 3)) (k : W p l e R s m args below meth c H locs cells slots Q (F0 m (pc + 3) ls (.int (μ 0 22 5) :: rest))) : W p l e R s m args below meth c H locs cells slots Q (F0 m pc ls (.ref (A (0, 22)) :: rest)) :=
  r_get S hW (in_r (by decide) (by decide)) rfl rfl in_RX1 5 (by decide) g_213 rfl hd k
theorem gf_X9_285 (S : CallFix p m c cc nL s args GT RX9) (hW : wX Z (ids g) A (cE Z A g μ) A0 s H locs) (hd : decode cc pc = .ok (.getfield 285, 3)) (k : W p l e R s m args below meth c H locs cells slots Q (F0 m (pc + 3) ls (.int (μ 0 22 4) :: rest))) : W p l e R s m args below meth c H locs cells slots Q (F0 m pc ls (.ref (A (0, 22)) :: rest)) :=
  r_get S hW (in_r (by decide) (by decide)) rfl rfl in_RX1 4 (by decide) g_211 rfl hd k
theorem gf_X9_311 (S : CallFix p m c cc nL s args GT RX9) (hW : wX Z (ids g) A (cE Z A g μ) A0 s H locs) (hd : decode cc pc = .ok (.getfield 311, 3)) (k : W p l e R s m args below meth c H locs cells slots Q (F0 m (pc + 3) ls (.int (μ 0 26 1) :: rest))) : W p l e R s m args below meth c H locs cells slots Q (F0 m pc ls (.ref (A (0, 26)) :: rest)) :=
  r_get S hW (in_r (by decide) (by decide)) rfl rfl in_RX3 1 (by decide) g_235 rfl hd k
theorem gf_X9_340 (S : CallFix p m c cc nL s args GT RX9) (hW : wX Z (ids g) A (cE Z A g μ) A0 s H locs) (hd : decode cc pc = .ok (.getfield 340, 3)) (k : W p l e R s m args below meth c H locs cells slots Q (F0 m (pc + 3) ls (.int (μ 0 15 2) :: rest))) : W p l e R s m args below meth c H locs cells slots Q (F0 m pc ls (.ref (A (0, 15)) :: rest)) :=
  r_get S hW (in_r (by decide) (by decide)) rfl rfl in_RX2 2 (by decide) g_174 rfl hd k
theorem gp_X0_18 (S : CallFix p m c cc nL s args GT RX0) (hW : wX Z (ids g) A (cE Z A g μ) A0 s H locs) {b : Nat} (hb : sB g b) {v : Int32} (hd : decode cc pc = .ok (.putfield 18, 3)) (k : ∀ (H1 : Heap) (locs1 : List Loc), wX Z (ids g) A (cE Z A g (up2 μ b 1 (upd (μ b 1) 2 v))) A0 s H1 locs1 → W p l e R s m args below meth c H1 locs1 cells slots Q (F0 m (pc + 3) ls rest)) : W p l e R s m args below meth c H locs cells slots Q (F0 m pc ls (.int v :: .ref (A (b, 1)) :: rest)) :=
  r_put S hW (in_s hb (by decide)) rfl rfl in_RX0 tyX0 tyX0_ok nmX0 2 (by decide) g_83 rfl (ty := .int) (by decide +kernel) rfl rfl (Nat.le_of_ble_eq_true rfl) (by simp [cE, cEo, up2, upd]) (fun y hy => cE_up y hy) hd k
theorem gp_X1_15 (S : CallFix p m c cc nL s args GT RX1) (hW : wX Z (ids g) A (cE Z A g μ) A0 s H locs) {v : Int32} (hd : decode cc pc = .ok (.putfield 15, 3)) (k : ∀ (H1 : Heap) (locs1 : List Loc), wX Z (ids g) A (cE Z A g (up2 μ 0 22 (upd (μ 0 22) 1 v))) A0 s H1 locs1 → W p l e R s m args below meth c H1 locs1 cells slots Q (F0 m (pc + 3) ls rest)) : W p l e R s m args below meth c H locs cells slots Q (F0 m pc ls (.int v :: .ref (A (0, 22)) :: rest)) :=
  r_put S hW (in_r (by decide) (by decide)) rfl rfl in_RX1 tyX1 tyX1_ok nmX1 1 (by decide) g_207 rfl (ty := .int) (by decide +kernel) rfl rfl (Nat.le_of_ble_eq_true rfl) (by simp [cE, cEo, up2, upd]) (fun y hy => cE_up y hy) hd k
theorem gp_X1_25 (S : CallFix p m c cc nL s args GT RX1) (hW : wX Z (ids g) A (cE Z A g μ) A0 s H locs) {v : Int32} (hd : decode cc pc = .ok (.putfield 25, 3)) (k : ∀ (H1 : Heap) (locs1 : List Loc), wX Z (ids g) A (cE Z A g (up2 μ 0 22 (upd (μ 0 22) 4 v))) A0 s H1 locs1 → W p l e R s m args below meth c H1 locs1 cells slots Q (F0 m (pc + 3) ls rest)) : W p l e R s m args below meth c H locs cells slots Q (F0 m pc ls (.int v :: .ref (A (0, 22)) :: rest)) :=
  r_put S hW (in_r (by decide) (by decide)) rfl rfl in_RX1 tyX1 tyX1_ok nmX1 4 (by decide) g_210 rfl (ty := .int) (by decide +kernel) rfl rfl (Nat.le_of_ble_eq_true rfl) (by simp [cE, cEo, up2, upd]) (fun y hy => cE_up y hy) hd k
theorem gp_X1_28 (S : CallFix p m c cc nL s args GT RX1) (hW : wX Z (ids g) A (cE Z A g μ) A0 s H locs) {v : Int32} (hd : decode cc pc = .ok (.putfield 28, 3)) (k : ∀ (H1 : Heap) (locs1 : List Loc), wX Z (ids g) A (cE Z A g (up2 μ 0 22 (upd (μ 0 22) 5 v))) A0 s H1 locs1 → W p l e R s m args below meth c H1 locs1 cells slots Q (F0 m (pc + 3) ls rest)) : W p l e R s m args below meth c H locs cells slots Q (F0 m pc ls (.int v :: .ref (A (0, 22)) :: rest)) :=
  r_put S hW (in_r (by decide) (by decide)) rfl rfl in_RX1 tyX1 tyX1_ok nmX1 5 (by decide) g_212 rfl (ty := .int) (by decide +kernel) rfl rfl (Nat.le_of_ble_eq_true rfl) (by simp [cE, cEo, up2, upd]) (fun y hy => cE_up y hy) hd k
theorem gp_X2_17 (S : CallFix p m c cc nL s args GT RX2) (hW : wX Z (ids g) A (cE Z A g μ) A0 s H locs) {v : Int32} (hd : decode cc pc = .ok (.putfield 17, 3)) (k : ∀ (H1 : Heap) (locs1 : List Loc), wX Z (ids g) A (cE Z A g (up2 μ 0 15 (upd (μ 0 15) 1 v))) A0 s H1 locs1 → W p l e R s m args below meth c H1 locs1 cells slots Q (F0 m (pc + 3) ls rest)) : W p l e R s m args below meth c H locs cells slots Q (F0 m pc ls (.int v :: .ref (A (0, 15)) :: rest)) :=
  r_put S hW (in_r (by decide) (by decide)) rfl rfl in_RX2 tyX2 tyX2_ok nmX2 1 (by decide) g_172 rfl (ty := .int) (by decide +kernel) rfl rfl (Nat.le_of_ble_eq_true rfl) (by simp [cE, cEo, up2, upd]) (fun y hy => cE_up y hy) hd k
theorem gp_X2_21 (S : CallFix p m c cc nL s args GT RX2) (hW : wX Z (ids g) A (cE Z A g μ) A0 s H locs) {v : Int32} (hd : decode cc pc = .ok (.putfield 21, 3)) (k : ∀ (H1 : Heap) (locs1 : List Loc), wX Z (ids g) A (cE Z A g (up2 μ 0 15 (upd (μ 0 15) 2 v))) A0 s H1 locs1 → W p l e R s m args below meth c H1 locs1 cells slots Q (F0 m (pc + 3) ls rest)) : W p l e R s m args below meth c H locs cells slots Q (F0 m pc ls (.int v :: .ref (A (0, 15)) :: rest)) :=
  r_put S hW (in_r (by decide) (by decide)) rfl rfl in_RX2 tyX2 tyX2_ok nmX2 2 (by decide) g_173 rfl (ty := .int) (by decide +kernel) rfl rfl (Nat.le_of_ble_eq_true rfl) (by simp [cE, cEo, up2, upd]) (fun y hy => cE_up y hy) hd k
theorem gp_X3_15 (S : CallFix p m c cc nL s args GT RX3) (hW : wX Z (ids g) A (cE Z A g μ) A0 s H locs) {v : Int32} (hd : decode cc pc = .ok (.putfield 15, 3)) (k : ∀ (H1 : Heap) (locs1 : List Loc), wX Z (ids g) A (cE Z A g (up2 μ 0 26 (upd (μ 0 26) 1 v))) A0 s H1 locs1 → W p l e R s m args below meth c H1 locs1 cells slots Q (F0 m (pc + 3) ls rest)) : W p l e R s m args below meth c H locs cells slots Q (F0 m pc ls (.int v :: .ref (A (0, 26)) :: rest)) :=
  r_put S hW (in_r (by decide) (by decide)) rfl rfl in_RX3 tyX3 tyX3_ok nmX3 1 (by decide) g_234 rfl (ty := .int) (by decide +kernel) rfl rfl (Nat.le_of_ble_eq_true rfl) (by simp [cE, cEo, up2, upd]) (fun y hy => cE_up y hy) hd k
theorem gp_X7_24 (S : CallFix p m c cc nL s args GT RX7) (hW : wX Z (ids g) A (cE Z A g μ) A0 s H locs) {b : Nat} (hb : tB g b) {v : Int32} (hd : decode cc pc = .ok (.putfield 24, 3)) (k : ∀ (H1 : Heap) (locs1 : List Loc), wX Z (ids g) A (cE Z A g (up2 μ b 9 (upd (μ b 9) 4 v))) A0 s H1 locs1 → W p l e R s m args below meth c H1 locs1 cells slots Q (F0 m (pc + 3) ls rest)) : W p l e R s m args below meth c H locs cells slots Q (F0 m pc ls (.int v :: .ref (A (b, 9)) :: rest)) :=
  r_put S hW (in_t hb (by decide) (by decide)) rfl rfl in_RX7 tyX7 tyX7_ok nmX7 4 (by decide) g_123 rfl (ty := .int) (by decide +kernel) rfl rfl (Nat.le_of_ble_eq_true rfl) (by simp [cE, cEo, up2, upd]) (fun y hy => cE_up y hy) hd k
theorem gp_X7_28 (S : CallFix p m c cc nL s args GT RX7) (hW : wX Z (ids g) A (cE Z A g μ) A0 s H locs) {b : Nat} (hb : tB g b) {v : Int32} (hd : decode cc pc = .ok (.putfield 28, 3)) (k : ∀ (H1 : Heap) (locs1 : List Loc), wX Z (ids g) A (cE Z A g (up2 μ b 9 (upd (μ b 9) 5 v))) A0 s H1 locs1 → W p l e R s m args below meth c H1 locs1 cells slots Q (F0 m (pc + 3) ls rest)) : W p l e R s m args below meth c H locs cells slots Q (F0 m pc ls (.int v :: .ref (A (b, 9)) :: rest)) :=
  r_put S hW (in_t hb (by decide) (by decide)) rfl rfl in_RX7 tyX7 tyX7_ok nmX7 5 (by decide) g_125 rfl (ty := .int) (by decide +kernel) rfl rfl (Nat.le_of_ble_eq_true rfl) (by simp [cE, cEo, up2, upd]) (fun y hy => cE_up y hy) hd k
theorem gp_X7_31 (S : CallFix p m c cc nL s args GT RX7) (hW : wX Z (ids g) A (cE Z A g μ) A0 s H locs) {b : Nat} (hb : tB g b) {v : Int32} (hd : decode cc pc = .ok (.putfield 31, 3)) (k : ∀ (H1 : Heap) (locs1 : List Loc), wX Z (ids g) A (cE Z A g (up2 μ b 9 (upd (μ b 9) 6 v))) A0 s H1 locs1 → W p l e R s m args below meth c H1 locs1 cells slots Q (F0 m (pc + 3) ls rest)) : W p l e R s m args below meth c H locs cells slots Q (F0 m pc ls (.int v :: .ref (A (b, 9)) :: rest)) :=
  r_put S hW (in_t hb (by decide) (by decide)) rfl rfl in_RX7 tyX7 tyX7_ok nmX7 6 (by decide) g_127 rfl (ty := .int) (by decide +kernel) rfl rfl (Nat.le_of_ble_eq_true rfl) (by simp [cE, cEo, up2, upd]) (fun y hy => cE_up y hy) hd k
theorem gp_X7_34 (S : CallFix p m c cc nL s args GT RX7) (hW : wX Z (ids g) A (cE Z A g μ) A0 s H locs) {b : Nat} (hb : tB g b) {v : Int32} (hd : decode cc pc = .ok (.putfield 34, 3)) (k : ∀ (H1 : Heap) (locs1 : List Loc), wX Z (ids g) A (cE Z A g (up2 μ b 9 (upd (μ b 9) 7 v))) A0 s H1 locs1 → W p l e R s m args below meth c H1 locs1 cells slots Q (F0 m (pc + 3) ls rest)) : W p l e R s m args below meth c H locs cells slots Q (F0 m pc ls (.int v :: .ref (A (b, 9)) :: rest)) :=
  r_put S hW (in_t hb (by decide) (by decide)) rfl rfl in_RX7 tyX7 tyX7_ok nmX7 7 (by decide) g_129 rfl (ty := .int) (by decide +kernel) rfl rfl (Nat.le_of_ble_eq_true rfl) (by simp [cE, cEo, up2, upd]) (fun y hy => cE_up y hy) hd k
theorem gp_X9_61 (S : CallFix p m c cc nL s args GT RX9) (hW : wX Z (ids g) A (cE Z A g μ) A0 s H locs) {v : Int32} (hn : narrow .boolean (.int v) = .int v) (hf : fits .boolean (.int v) = true) (hd : decode cc pc = .ok (.putfield 61, 3)) (k : ∀ (H1 : Heap) (locs1 : List Loc), wX Z (ids g) A (cE Z A g (up2 μ 0 14 (upd (μ 0 14) 9 v))) A0 s H1 locs1 → W p l e R s m args below meth c H1 locs1 cells slots Q (F0 m (pc + 3) ls rest)) : W p l e R s m args below meth c H locs cells slots Q (F0 m pc ls (.int v :: .ref (A (0, 14)) :: rest)) :=
  r_put S hW (in_r (by decide) (by decide)) rfl rfl in_RX9 tyX9 tyX9_ok nmX9 9 (by decide) g_250 rfl (ty := .boolean) (by decide +kernel) hn hf (Nat.le_of_ble_eq_true rfl) (by simp [cE, cEo, up2, upd]) (fun y hy => cE_up y hy) hd k
theorem gp_X9_65 (S : CallFix p m c cc nL s args GT RX9) (hW : wX Z (ids g) A (cE Z A g μ) A0 s H locs) {v : Int32} (hd : decode cc pc = .ok (.putfield 65, 3)) (k : ∀ (H1 : Heap) (locs1 : List Loc), wX Z (ids g) A (cE Z A g (up2 μ 0 14 (upd (μ 0 14) 10 v))) A0 s H1 locs1 → W p l e R s m args below meth c H1 locs1 cells slots Q (F0 m (pc + 3) ls rest)) : W p l e R s m args below meth c H locs cells slots Q (F0 m pc ls (.int v :: .ref (A (0, 14)) :: rest)) :=
  r_put S hW (in_r (by decide) (by decide)) rfl rfl in_RX9 tyX9 tyX9_ok nmX9 10 (by decide) g_251 rfl (ty := .int) (by decide +kernel) rfl rfl (Nat.le_of_ble_eq_true rfl) (by simp [cE, cEo, up2, upd]) (fun y hy => cE_up y hy) hd k
theorem gp_X9_69 (S : CallFix p m c cc nL s args GT RX9) (hW : wX Z (ids g) A (cE Z A g μ) A0 s H locs) {v : Int32} (hd : decode cc pc = .ok (.putfield 69, 3)) (k : ∀ (H1 : Heap) (locs1 : List Loc), wX Z (ids g) A (cE Z A g (up2 μ 0 14 (upd (μ 0 14) 11 v))) A0 s H1 locs1 → W p l e R s m args below meth c H1 locs1 cells slots Q (F0 m (pc + 3) ls rest)) : W p l e R s m args below meth c H locs cells slots Q (F0 m pc ls (.int v :: .ref (A (0, 14)) :: rest)) :=
  r_put S hW (in_r (by decide) (by decide)) rfl rfl in_RX9 tyX9 tyX9_ok nmX9 11 (by decide) g_252 rfl (ty := .int) (by decide +kernel) rfl rfl (Nat.le_of_ble_eq_true rfl) (by simp [cE, cEo, up2, upd]) (fun y hy => cE_up y hy) hd k
end GF
theorem k_J0_47 : lkS RJ0 47 yJ2_coderFromArrayLen_85cad cJ2_coderFromArrayLen_85cad 2 (some .byte) 2 := ⟨g_1357, g_1358, g_47, g_1359, ⟨by decide +kernel, by decide +kernel, by decide +kernel⟩⟩
theorem k_J0_54 : lkS RJ0 54 yJ7_copyOfRange_39247 cJ7_copyOfRange_39247 3 (some (.array .byte)) 3 := ⟨g_1280, g_1281, g_50, g_1282, ⟨by decide +kernel, by decide +kernel, by decide +kernel⟩⟩
theorem k_J0_106 : lkS RJ0 106 yJ1_inflate_0e8fd cJ1_inflate_0e8fd 5 (none) 5 := ⟨g_1347, g_1234, g_45, g_1235, ⟨by decide +kernel, by decide +kernel, by decide +kernel⟩⟩
theorem k_J0_335 : lkV RJ0 RJ0 335 yJ0_coder_7d493 cJ0_coder_7d493 1 (some .byte) 0 := ⟨g_876, g_877, g_878, g_44, g_879, ⟨by decide +kernel, by decide +kernel, by decide +kernel⟩⟩
theorem k_J0_489 : lkI RJ0 489 yJ0_init_db425 cJ0_init_db425 5 2 := ⟨g_1262, g_1263, g_44, g_1264, by decide, ⟨by decide +kernel, by decide +kernel, by decide +kernel⟩⟩
theorem k_J0_492 : lkV RJ0 RJ0 492 yJ0_isLatin1_aae02 cJ0_isLatin1_aae02 1 (some .boolean) 0 := ⟨g_891, g_892, g_893, g_44, g_894, ⟨by decide +kernel, by decide +kernel, by decide +kernel⟩⟩
theorem k_J0_495 : lkS RJ0 495 yJ1_charAt_3b067 cJ1_charAt_3b067 2 (some .char) 2 := ⟨g_895, g_896, g_45, g_897, ⟨by decide +kernel, by decide +kernel, by decide +kernel⟩⟩
theorem k_J0_498 : lkS RJ0 498 yJ2_charAt_3b067 cJ2_charAt_3b067 2 (some .char) 2 := ⟨g_906, g_907, g_47, g_908, ⟨by decide +kernel, by decide +kernel, by decide +kernel⟩⟩
theorem k_J0_505 : lkV RJ0 RJ0 505 yJ0_length_8abf5 cJ0_length_8abf5 1 (some .int) 0 := ⟨g_1091, g_873, g_874, g_44, g_875, ⟨by decide +kernel, by decide +kernel, by decide +kernel⟩⟩
theorem k_J0_541 : lkS RJ0 541 yJ1_equals_b5fdf cJ1_equals_b5fdf 3 (some .boolean) 2 := ⟨g_1570, g_1571, g_45, g_1572, ⟨by decide +kernel, by decide +kernel, by decide +kernel⟩⟩
theorem k_J0_633 : lkV RJ0 RJ0 633 yJ0_indexOf_7cf53 cJ0_indexOf_7cf53 3 (some .int) 2 := ⟨g_1087, g_1088, g_1089, g_44, g_1090, ⟨by decide +kernel, by decide +kernel, by decide +kernel⟩⟩
theorem k_J0_637 : lkS RJ0 637 yJ1_indexOf_4cfef cJ1_indexOf_4cfef 4 (some .int) 4 := ⟨g_1092, g_1093, g_45, g_1094, ⟨by decide +kernel, by decide +kernel, by decide +kernel⟩⟩
theorem k_J0_640 : lkS RJ0 640 yJ2_indexOf_4cfef cJ2_indexOf_4cfef 4 (some .int) 4 := ⟨g_1103, g_1104, g_47, g_1105, ⟨by decide +kernel, by decide +kernel, by decide +kernel⟩⟩
theorem k_J0_1051 : lkS RJ0 1051 yJ2_compress_39247 cJ2_compress_39247 6 (some (.array .byte)) 3 := ⟨g_1350, g_1351, g_47, g_1352, ⟨by decide +kernel, by decide +kernel, by decide +kernel⟩⟩
theorem k_J0_1059 : lkS RJ0 1059 yJ3_checkIndex_8e157 cJ3_checkIndex_8e157 3 (some .int) 3 := ⟨g_903, g_904, g_46, g_905, ⟨by decide +kernel, by decide +kernel, by decide +kernel⟩⟩
theorem k_J0_1062 : lkS RJ0 1062 yJ3_checkFromToIndex_8c36e cJ3_checkFromToIndex_8c36e 4 (some .int) 4 := ⟨g_1118, g_1119, g_46, g_1120, ⟨by decide +kernel, by decide +kernel, by decide +kernel⟩⟩
theorem k_J0_1065 : lkS RJ0 1065 yJ3_checkFromIndexSize_8c36e cJ3_checkFromIndexSize_8c36e 4 (some .int) 4 := ⟨g_1245, g_1246, g_46, g_1247, ⟨by decide +kernel, by decide +kernel, by decide +kernel⟩⟩
theorem k_J1_9 : lkS RJ1 9 yJ0_checkIndex_df160 cJ0_checkIndex_df160 2 (none) 2 := ⟨g_898, g_899, g_44, g_900, ⟨by decide +kernel, by decide +kernel, by decide +kernel⟩⟩
theorem k_J1_38 : lkS RJ1 38 yJ9_min_7cf53 cJ9_min_7cf53 2 (some .int) 2 := ⟨g_1099, g_330, g_48, g_331, ⟨by decide +kernel, by decide +kernel, by decide +kernel⟩⟩
theorem k_J1_88 : lkS RJ1 88 yJ1_canEncode_9a6ad cJ1_canEncode_9a6ad 1 (some .boolean) 1 := ⟨g_1095, g_1096, g_45, g_1097, ⟨by decide +kernel, by decide +kernel, by decide +kernel⟩⟩
theorem k_J1_92 : lkS RJ1 92 yJ9_max_7cf53 cJ9_max_7cf53 2 (some .int) 2 := ⟨g_1098, g_333, g_48, g_334, ⟨by decide +kernel, by decide +kernel, by decide +kernel⟩⟩
theorem k_J1_95 : lkS RJ1 95 yJ1_indexOfChar_4cfef cJ1_indexOfChar_4cfef 6 (some .int) 4 := ⟨g_1100, g_1101, g_45, g_1102, ⟨by decide +kernel, by decide +kernel, by decide +kernel⟩⟩
theorem k_J1_240 : lkS RJ1 240 yJ2_inflate_0e8fd cJ2_inflate_0e8fd 6 (none) 5 := ⟨g_1236, g_1237, g_47, g_1238, ⟨by decide +kernel, by decide +kernel, by decide +kernel⟩⟩
theorem k_J2_11 : lkS RJ2 11 yJ2_newBytesLength_0f7a4 cJ2_newBytesLength_0f7a4 1 (some .int) 1 := ⟨g_1168, g_1169, g_47, g_1170, ⟨by decide +kernel, by decide +kernel, by decide +kernel⟩⟩
theorem k_J2_48 : lkS RJ2 48 yJ2_length_9d52b cJ2_length_9d52b 1 (some .int) 1 := ⟨g_912, g_913, g_47, g_914, ⟨by decide +kernel, by decide +kernel, by decide +kernel⟩⟩
theorem k_J2_67 : lkS RJ2 67 yJ2_checkIndex_2214a cJ2_checkIndex_2214a 2 (none) 2 := ⟨g_909, g_910, g_47, g_911, ⟨by decide +kernel, by decide +kernel, by decide +kernel⟩⟩
theorem k_J2_71 : lkS RJ2 71 yJ2_getChar_3b067 cJ2_getChar_3b067 2 (some .char) 2 := ⟨g_916, g_917, g_47, g_918, ⟨by decide +kernel, by decide +kernel, by decide +kernel⟩⟩
theorem k_J2_96 : lkS RJ2 96 yJ2_checkBoundsBeginEnd_d044e cJ2_checkBoundsBeginEnd_d044e 3 (none) 3 := ⟨g_1112, g_1113, g_47, g_1114, ⟨by decide +kernel, by decide +kernel, by decide +kernel⟩⟩
theorem k_J2_111 : lkS RJ2 111 yJ2_putChar_b72d1 cJ2_putChar_b72d1 3 (none) 3 := ⟨g_1248, g_1249, g_47, g_1250, ⟨by decide +kernel, by decide +kernel, by decide +kernel⟩⟩
theorem k_J2_123 : lkS RJ2 123 yJ2_compress_5af95 cJ2_compress_5af95 7 (some .int) 5 := ⟨g_1353, g_1354, g_47, g_1355, ⟨by decide +kernel, by decide +kernel, by decide +kernel⟩⟩
theorem k_J2_126 : lkS RJ2 126 yJ7_copyOfRange_39247 cJ7_copyOfRange_39247 3 (some (.array .byte)) 3 := ⟨g_1356, g_1281, g_50, g_1282, ⟨by decide +kernel, by decide +kernel, by decide +kernel⟩⟩
theorem k_J2_157 : lkS RJ2 157 yJ11_highSurrogate_5068e cJ11_highSurrogate_5068e 1 (some .char) 1 := ⟨g_1130, g_1131, g_60, g_1132, ⟨by decide +kernel, by decide +kernel, by decide +kernel⟩⟩
theorem k_J2_161 : lkS RJ2 161 yJ11_lowSurrogate_5068e cJ11_lowSurrogate_5068e 1 (some .char) 1 := ⟨g_1134, g_1135, g_60, g_1136, ⟨by decide +kernel, by decide +kernel, by decide +kernel⟩⟩
theorem k_J2_164 : lkS RJ2 164 yJ11_isValidCodePoint_9a6ad cJ11_isValidCodePoint_9a6ad 2 (some .boolean) 1 := ⟨g_1127, g_1128, g_60, g_1129, ⟨by decide +kernel, by decide +kernel, by decide +kernel⟩⟩
theorem k_J2_173 : lkS RJ2 173 yJ2_checkBoundsOffCount_d044e cJ2_checkBoundsOffCount_d044e 3 (none) 3 := ⟨g_1239, g_1240, g_47, g_1241, ⟨by decide +kernel, by decide +kernel, by decide +kernel⟩⟩
theorem k_J2_183 : lkS RJ2 183 yJ9_min_7cf53 cJ9_min_7cf53 2 (some .int) 2 := ⟨g_1107, g_330, g_48, g_331, ⟨by decide +kernel, by decide +kernel, by decide +kernel⟩⟩
theorem k_J2_224 : lkS RJ2 224 yJ9_max_7cf53 cJ9_max_7cf53 2 (some .int) 2 := ⟨g_1106, g_333, g_48, g_334, ⟨by decide +kernel, by decide +kernel, by decide +kernel⟩⟩
theorem k_J2_228 : lkS RJ2 228 yJ2_indexOfChar_4cfef cJ2_indexOfChar_4cfef 4 (some .int) 4 := ⟨g_1109, g_1110, g_47, g_1111, ⟨by decide +kernel, by decide +kernel, by decide +kernel⟩⟩
theorem k_J2_232 : lkS RJ2 232 yJ2_indexOfSupplementary_4cfef cJ2_indexOfSupplementary_4cfef 7 (some .int) 4 := ⟨g_1124, g_1125, g_47, g_1126, ⟨by decide +kernel, by decide +kernel, by decide +kernel⟩⟩
theorem k_J2_241 : lkS RJ2 241 yJ0_checkBoundsBeginEnd_23922 cJ0_checkBoundsBeginEnd_23922 3 (none) 3 := ⟨g_1115, g_1116, g_44, g_1117, ⟨by decide +kernel, by decide +kernel, by decide +kernel⟩⟩
theorem k_J2_244 : lkS RJ2 244 yJ2_indexOfCharUnsafe_4cfef cJ2_indexOfCharUnsafe_4cfef 5 (some .int) 4 := ⟨g_1121, g_1122, g_47, g_1123, ⟨by decide +kernel, by decide +kernel, by decide +kernel⟩⟩
theorem k_J2_393 : lkS RJ2 393 yJ2_getChars_ba4f3 cJ2_getChars_ba4f3 7 (some .int) 3 := ⟨g_1312, g_1313, g_47, g_1314, ⟨by decide +kernel, by decide +kernel, by decide +kernel⟩⟩
theorem k_J2_414 : lkS RJ2 414 yJ0_checkIndex_df160 cJ0_checkIndex_df160 2 (none) 2 := ⟨g_915, g_899, g_44, g_900, ⟨by decide +kernel, by decide +kernel, by decide +kernel⟩⟩
theorem k_J2_419 : lkS RJ2 419 yJ0_checkBoundsOffCount_cabcc cJ0_checkBoundsOffCount_cabcc 3 (some .int) 3 := ⟨g_1242, g_1243, g_44, g_1244, ⟨by decide +kernel, by decide +kernel, by decide +kernel⟩⟩
theorem k_J4_1 : lkI RJ4 1 yJ5_init_d00df cJ5_init_d00df 2 1 := ⟨g_1160, g_1161, g_55, g_1162, by decide, ⟨by decide +kernel, by decide +kernel, by decide +kernel⟩⟩
theorem k_J4_7 : lkI RJ4 7 yJ5_init_a7421 cJ5_init_a7421 5 1 := ⟨g_1370, g_1371, g_55, g_1372, by decide, ⟨by decide +kernel, by decide +kernel, by decide +kernel⟩⟩
theorem k_J4_23 : lkV RJ4 RJ4 23 yJ4_append_15ec4 cJ4_append_15ec4 2 (some (.object "java/lang/StringBuilder")) 1 := ⟨g_1377, g_1319, g_1320, g_56, g_1321, ⟨by decide +kernel, by decide +kernel, by decide +kernel⟩⟩
theorem k_J4_29 : lkI RJ4 29 yJ5_append_cf1ce cJ5_append_cf1ce 3 1 := ⟨g_1322, g_1323, g_55, g_1324, by decide, ⟨by decide +kernel, by decide +kernel, by decide +kernel⟩⟩
theorem k_J4_50 : lkI RJ4 50 yJ5_append_3fe6f cJ5_append_3fe6f 2 1 := ⟨g_1189, g_1190, g_55, g_1191, by decide, ⟨by decide +kernel, by decide +kernel, by decide +kernel⟩⟩
theorem k_J4_53 : lkI RJ4 53 yJ5_append_c97b9 cJ5_append_c97b9 4 1 := ⟨g_1296, g_1297, g_55, g_1298, by decide, ⟨by decide +kernel, by decide +kernel, by decide +kernel⟩⟩
theorem k_J4_137 : lkI RJ4 137 yJ0_init_81219 cJ0_init_81219 2 1 := ⟨g_1259, g_1260, g_44, g_1261, by decide, ⟨by decide +kernel, by decide +kernel, by decide +kernel⟩⟩
theorem k_J4_343 : lkI RJ4 343 yJ5_length_8abf5 cJ5_length_8abf5 1 0 := ⟨g_1277, g_1272, g_55, g_1278, by decide, ⟨by decide +kernel, by decide +kernel, by decide +kernel⟩⟩
theorem k_J5_26 : lkS RJ5 26 yJ2_newBytesFor_77867 cJ2_newBytesFor_77867 1 (some (.array .byte)) 1 := ⟨g_1165, g_1166, g_47, g_1167, ⟨by decide +kernel, by decide +kernel, by decide +kernel⟩⟩
theorem k_J5_32 : lkV RJ5 RJ0 32 yJ0_length_8abf5 cJ0_length_8abf5 1 (some .int) 0 := ⟨g_1332, g_873, g_874, g_44, g_875, ⟨by decide +kernel, by decide +kernel, by decide +kernel⟩⟩
theorem k_J5_40 : lkV RJ5 RJ0 40 yJ0_coder_7d493 cJ0_coder_7d493 1 (some .byte) 0 := ⟨g_1341, g_877, g_878, g_44, g_879, ⟨by decide +kernel, by decide +kernel, by decide +kernel⟩⟩
theorem k_J5_108 : lkS RJ5 108 yJ7_copyOf_9075b cJ7_copyOf_9075b 3 (some (.array .byte)) 2 := ⟨g_1209, g_1210, g_50, g_1211, ⟨by decide +kernel, by decide +kernel, by decide +kernel⟩⟩
theorem k_J5_114 : lkS RJ5 114 yJ8_newLength_cabcc cJ8_newLength_cabcc 4 (some .int) 3 := ⟨g_1200, g_1201, g_57, g_1202, ⟨by decide +kernel, by decide +kernel, by decide +kernel⟩⟩
theorem k_J5_125 : lkS RJ5 125 yJ1_inflate_0e8fd cJ1_inflate_0e8fd 5 (none) 5 := ⟨g_1233, g_1234, g_45, g_1235, ⟨by decide +kernel, by decide +kernel, by decide +kernel⟩⟩
theorem k_J5_191 : lkS RJ5 191 yJ1_canEncode_fc78d cJ1_canEncode_fc78d 1 (some .boolean) 1 := ⟨g_1226, g_1227, g_45, g_1228, ⟨by decide +kernel, by decide +kernel, by decide +kernel⟩⟩
theorem k_J5_197 : lkS RJ5 197 yJ2_putCharSB_b72d1 cJ2_putCharSB_b72d1 3 (none) 3 := ⟨g_1251, g_1252, g_47, g_1253, ⟨by decide +kernel, by decide +kernel, by decide +kernel⟩⟩
theorem k_J5_226 : lkS RJ5 226 yJ2_putCharsAt_cd4e5 cJ2_putCharsAt_cd4e5 7 (some .int) 6 := ⟨g_1329, g_1330, g_47, g_1331, ⟨by decide +kernel, by decide +kernel, by decide +kernel⟩⟩
theorem k_J5_245 : lkS RJ5 245 yJ6_stringSize_0f7a4 cJ6_stringSize_0f7a4 4 (some .int) 1 := ⟨g_1299, g_1300, g_59, g_1301, ⟨by decide +kernel, by decide +kernel, by decide +kernel⟩⟩
theorem k_J5_248 : lkS RJ5 248 yJ6_getChars_ba4f3 cJ6_getChars_ba4f3 7 (some .int) 3 := ⟨g_1302, g_1303, g_59, g_1304, ⟨by decide +kernel, by decide +kernel, by decide +kernel⟩⟩
theorem k_J5_251 : lkS RJ5 251 yJ2_getChars_46870 cJ2_getChars_46870 5 (some .int) 4 := ⟨g_1309, g_1310, g_47, g_1311, ⟨by decide +kernel, by decide +kernel, by decide +kernel⟩⟩
theorem k_J5_399 : lkV RJ5 RJ0 399 yJ0_getBytes_840e7 cJ0_getBytes_840e7 4 (none) 3 := ⟨g_1342, g_1343, g_1344, g_44, g_1345, ⟨by decide +kernel, by decide +kernel, by decide +kernel⟩⟩
theorem k_J7_47 : lkI RJ7 47 yJ4_init_da8c8 cJ4_init_da8c8 1 0 := ⟨g_1291, g_1158, g_56, g_1159, by decide, ⟨by decide +kernel, by decide +kernel, by decide +kernel⟩⟩
theorem k_J7_50 : lkV RJ7 RJ4 50 yJ4_append_15ec4 cJ4_append_15ec4 2 (some (.object "java/lang/StringBuilder")) 1 := ⟨g_1318, g_1319, g_1320, g_56, g_1321, ⟨by decide +kernel, by decide +kernel, by decide +kernel⟩⟩
theorem k_J7_54 : lkV RJ7 RJ4 54 yJ4_append_bf812 cJ4_append_bf812 2 (some (.object "java/lang/StringBuilder")) 1 := ⟨g_1292, g_1293, g_1294, g_56, g_1295, ⟨by decide +kernel, by decide +kernel, by decide +kernel⟩⟩
theorem k_J7_61 : lkV RJ7 RJ4 61 yJ4_toString_0e30d cJ4_toString_0e30d 1 (some (.object "java/lang/String")) 0 := ⟨g_1348, g_1255, g_1256, g_56, g_1257, ⟨by decide +kernel, by decide +kernel, by decide +kernel⟩⟩
theorem k_J7_304 : lkS RJ7 304 yJ9_min_7cf53 cJ9_min_7cf53 2 (some .int) 2 := ⟨g_1219, g_330, g_48, g_331, ⟨by decide +kernel, by decide +kernel, by decide +kernel⟩⟩
theorem k_J7_339 : lkS RJ7 339 yJ7_copyOfRangeByte_39247 cJ7_copyOfRangeByte_39247 5 (some (.array .byte)) 3 := ⟨g_1283, g_1284, g_50, g_1285, ⟨by decide +kernel, by decide +kernel, by decide +kernel⟩⟩
theorem k_J7_343 : lkS RJ7 343 yJ7_checkLength_df160 cJ7_checkLength_df160 2 (none) 2 := ⟨g_1286, g_1287, g_50, g_1288, ⟨by decide +kernel, by decide +kernel, by decide +kernel⟩⟩
theorem k_J8_194 : lkS RJ8 194 yJ9_max_7cf53 cJ9_max_7cf53 2 (some .int) 2 := ⟨g_1203, g_333, g_48, g_334, ⟨by decide +kernel, by decide +kernel, by decide +kernel⟩⟩
theorem k_J8_201 : lkS RJ8 201 yJ8_hugeLength_7cf53 cJ8_hugeLength_7cf53 3 (some .int) 2 := ⟨g_1205, g_1206, g_57, g_1207, ⟨by decide +kernel, by decide +kernel, by decide +kernel⟩⟩
theorem k_L_7 : lkV RL RX9 7 yX9_addFilter cX9_addFilter 3 (some .int) 2 := ⟨g_488, g_489, g_490, g_29, g_491, ⟨by decide +kernel, by decide +kernel, by decide +kernel⟩⟩
theorem k_L_17 : lkV RL RX9 17 yX9_insertFilter cX9_insertFilter 4 (some .int) 3 := ⟨g_684, g_685, g_686, g_29, g_687, ⟨by decide +kernel, by decide +kernel, by decide +kernel⟩⟩
theorem k_L_23 : lkV RL RX9 23 yX9_removeFilter cX9_removeFilter 2 (some .int) 1 := ⟨g_695, g_696, g_697, g_29, g_698, ⟨by decide +kernel, by decide +kernel, by decide +kernel⟩⟩
theorem k_L_27 : lkV RL RX9 27 yX9_swapFilters cX9_swapFilters 3 (some .int) 2 := ⟨g_1141, g_1142, g_1143, g_29, g_1144, ⟨by decide +kernel, by decide +kernel, by decide +kernel⟩⟩
theorem k_L_31 : lkV RL RX9 31 yX9_filterKind cX9_filterKind 2 (some .char) 1 := ⟨g_1444, g_1445, g_1446, g_29, g_1447, ⟨by decide +kernel, by decide +kernel, by decide +kernel⟩⟩
theorem k_L_35 : lkV RL RX9 35 yX9_filterParameter cX9_filterParameter 2 (some .int) 1 := ⟨g_1451, g_1452, g_1453, g_29, g_1454, ⟨by decide +kernel, by decide +kernel, by decide +kernel⟩⟩
theorem k_L_38 : lkV RL RX9 38 yX9_addNote cX9_addNote 5 (some .int) 4 := ⟨g_710, g_711, g_712, g_29, g_713, ⟨by decide +kernel, by decide +kernel, by decide +kernel⟩⟩
theorem k_L_42 : lkV RL RX9 42 yX9_removeNote cX9_removeNote 2 (some .int) 1 := ⟨g_735, g_736, g_737, g_29, g_738, ⟨by decide +kernel, by decide +kernel, by decide +kernel⟩⟩
theorem k_L_47 : lkV RL RX9 47 yX9_noteCount cX9_noteCount 2 (some .int) 1 := ⟨g_1391, g_1392, g_1393, g_29, g_1394, ⟨by decide +kernel, by decide +kernel, by decide +kernel⟩⟩
theorem k_L_50 : lkV RL RX9 50 yX9_songLength cX9_songLength 2 (some .int) 1 := ⟨g_1400, g_1401, g_1402, g_29, g_1403, ⟨by decide +kernel, by decide +kernel, by decide +kernel⟩⟩
theorem k_L_53 : lkV RL RX9 53 yX9_rawSample cX9_rawSample 3 (some .int) 2 := ⟨g_1407, g_1408, g_1409, g_29, g_1410, ⟨by decide +kernel, by decide +kernel, by decide +kernel⟩⟩
theorem k_L_56 : lkV RL RX9 56 yX9_sample cX9_sample 3 (some .int) 2 := ⟨g_1466, g_1467, g_1468, g_29, g_1469, ⟨by decide +kernel, by decide +kernel, by decide +kernel⟩⟩
theorem k_L_59 : lkV RL RX9 59 yX9_sampleByFilter cX9_sampleByFilter 3 (some .int) 2 := ⟨g_1478, g_1479, g_1480, g_29, g_1481, ⟨by decide +kernel, by decide +kernel, by decide +kernel⟩⟩
theorem k_L_62 : lkV RL RX9 62 yX9_mixedSample cX9_mixedSample 4 (some .int) 3 := ⟨g_1485, g_1486, g_1487, g_29, g_1488, ⟨by decide +kernel, by decide +kernel, by decide +kernel⟩⟩
theorem k_L_66 : lkV RL RX9 66 yX9_peak cX9_peak 5 (some .int) 1 := ⟨g_750, g_751, g_752, g_29, g_753, ⟨by decide +kernel, by decide +kernel, by decide +kernel⟩⟩
theorem k_L_69 : lkV RL RX9 69 yX9_energy cX9_energy 2 (some .long) 1 := ⟨g_759, g_760, g_761, g_29, g_762, ⟨by decide +kernel, by decide +kernel, by decide +kernel⟩⟩
theorem k_L_75 : lkV RL RX9 75 yX9_signChanges cX9_signChanges 7 (some .int) 1 := ⟨g_1493, g_1494, g_1495, g_29, g_1496, ⟨by decide +kernel, by decide +kernel, by decide +kernel⟩⟩
theorem k_L_78 : lkV RL RX9 78 yX9_addTank cX9_addTank 2 (some .int) 1 := ⟨g_768, g_769, g_770, g_29, g_771, ⟨by decide +kernel, by decide +kernel, by decide +kernel⟩⟩
theorem k_L_81 : lkV RL RX9 81 yX9_setTuning cX9_setTuning 3 (some .int) 2 := ⟨g_784, g_785, g_786, g_29, g_787, ⟨by decide +kernel, by decide +kernel, by decide +kernel⟩⟩
theorem k_L_84 : lkV RL RX9 84 yX9_pour cX9_pour 2 (some .int) 1 := ⟨g_803, g_804, g_805, g_29, g_806, ⟨by decide +kernel, by decide +kernel, by decide +kernel⟩⟩
theorem k_L_87 : lkV RL RX9 87 yX9_drain cX9_drain 3 (some .int) 2 := ⟨g_810, g_811, g_812, g_29, g_813, ⟨by decide +kernel, by decide +kernel, by decide +kernel⟩⟩
theorem k_L_90 : lkV RL RX9 90 yX9_capacity cX9_capacity 2 (some .int) 1 := ⟨g_1521, g_1522, g_1523, g_29, g_1524, ⟨by decide +kernel, by decide +kernel, by decide +kernel⟩⟩
theorem k_L_93 : lkV RL RX9 93 yX9_tuning cX9_tuning 2 (some .int) 1 := ⟨g_1528, g_1529, g_1530, g_29, g_1531, ⟨by decide +kernel, by decide +kernel, by decide +kernel⟩⟩
theorem k_L_96 : lkV RL RX9 96 yX9_level cX9_level 2 (some .int) 1 := ⟨g_1513, g_1514, g_1515, g_29, g_1516, ⟨by decide +kernel, by decide +kernel, by decide +kernel⟩⟩
theorem k_L_99 : lkV RL RX9 99 yX9_frameLoudness cX9_frameLoudness 3 (some .int) 2 := ⟨g_1537, g_1538, g_1539, g_29, g_1540, ⟨by decide +kernel, by decide +kernel, by decide +kernel⟩⟩
theorem k_L_102 : lkV RL RX9 102 yX9_frameCount cX9_frameCount 2 (some .int) 1 := ⟨g_1503, g_1504, g_1505, g_29, g_1506, ⟨by decide +kernel, by decide +kernel, by decide +kernel⟩⟩
theorem k_L_105 : lkV RL RX9 105 yX9_dropsFor cX9_dropsFor 2 (some .int) 1 := ⟨g_830, g_831, g_832, g_29, g_833, ⟨by decide +kernel, by decide +kernel, by decide +kernel⟩⟩
theorem k_L_108 : lkV RL RX9 108 yX9_dropsByLevels cX9_dropsByLevels 2 (some .int) 1 := ⟨g_1587, g_1588, g_1589, g_29, g_1590, ⟨by decide +kernel, by decide +kernel, by decide +kernel⟩⟩
theorem k_L_111 : lkV RL RX9 111 yX9_tankAtRank cX9_tankAtRank 3 (some .int) 1 := ⟨g_1548, g_1549, g_1550, g_29, g_1551, ⟨by decide +kernel, by decide +kernel, by decide +kernel⟩⟩
theorem k_L_114 : lkV RL RX9 114 yX9_append cX9_append 2 (some .int) 1 := ⟨g_837, g_838, g_839, g_29, g_840, ⟨by decide +kernel, by decide +kernel, by decide +kernel⟩⟩
theorem k_L_118 : lkV RL RX9 118 yX9_run cX9_run 3 (some .int) 0 := ⟨g_854, g_855, g_856, g_29, g_857, ⟨by decide +kernel, by decide +kernel, by decide +kernel⟩⟩
theorem k_L_122 : lkV RL RX9 122 yX9_errorPosition cX9_errorPosition 1 (some .int) 0 := ⟨g_968, g_969, g_970, g_29, g_971, ⟨by decide +kernel, by decide +kernel, by decide +kernel⟩⟩
theorem k_L_125 : lkV RL RX9 125 yX9_failedCommand cX9_failedCommand 1 (some .int) 0 := ⟨g_976, g_977, g_978, g_29, g_979, ⟨by decide +kernel, by decide +kernel, by decide +kernel⟩⟩
theorem k_L_128 : lkV RL RX9 128 yX9_describeTank cX9_describeTank 3 (some .int) 1 := ⟨g_1381, g_1382, g_1383, g_29, g_1384, ⟨by decide +kernel, by decide +kernel, by decide +kernel⟩⟩
theorem k_L_131 : lkV RL RX9 131 yX9_lineAt cX9_lineAt 2 (some .char) 1 := ⟨g_984, g_985, g_986, g_29, g_987, ⟨by decide +kernel, by decide +kernel, by decide +kernel⟩⟩
theorem k_L_134 : lkV RL RX9 134 yX9_meanLevel cX9_meanLevel 6 (some .double) 1 := ⟨g_1011, g_1012, g_1013, g_29, g_1014, ⟨by decide +kernel, by decide +kernel, by decide +kernel⟩⟩
theorem k_L_144 : lkV RL RX9 144 yX9_filledShare cX9_filledShare 2 (some .float) 0 := ⟨g_1023, g_1024, g_1025, g_29, g_1026, ⟨by decide +kernel, by decide +kernel, by decide +kernel⟩⟩
theorem k_L_149 : lkV RL RX9 149 yX9_undo cX9_undo 1 (some .int) 0 := ⟨g_1036, g_1037, g_1038, g_29, g_1039, ⟨by decide +kernel, by decide +kernel, by decide +kernel⟩⟩
theorem k_L_152 : lkV RL RX9 152 yX9_restore cX9_restore 1 (some .int) 0 := ⟨g_1048, g_1049, g_1050, g_29, g_1051, ⟨by decide +kernel, by decide +kernel, by decide +kernel⟩⟩
theorem k_L_157 : lkI RL 157 yJ4_init_da8c8 cJ4_init_da8c8 1 0 := ⟨g_1157, g_1158, g_56, g_1159, by decide, ⟨by decide +kernel, by decide +kernel, by decide +kernel⟩⟩
theorem k_L_163 : lkV RL RJ4 163 yJ4_append_cf468 cJ4_append_cf468 2 (some (.object "java/lang/StringBuilder")) 1 := ⟨g_1185, g_1186, g_1187, g_56, g_1188, ⟨by decide +kernel, by decide +kernel, by decide +kernel⟩⟩
theorem k_L_166 : lkV RL RJ4 166 yJ4_toString_0e30d cJ4_toString_0e30d 1 (some (.object "java/lang/String")) 0 := ⟨g_1254, g_1255, g_1256, g_56, g_1257, ⟨by decide +kernel, by decide +kernel, by decide +kernel⟩⟩
theorem k_L_175 : lkV RL RJ0 175 yJ0_charAt_5068e cJ0_charAt_5068e 2 (some .char) 1 := ⟨g_1079, g_888, g_889, g_44, g_890, ⟨by decide +kernel, by decide +kernel, by decide +kernel⟩⟩
theorem k_L_181 : lkV RL RX10 181 yX10_next cX10_next 2 (some .int) 1 := ⟨g_475, g_476, g_477, g_54, g_478, ⟨by decide +kernel, by decide +kernel, by decide +kernel⟩⟩
theorem k_L_186 : lkS RL 186 yJ9_max_7cf53 cJ9_max_7cf53 2 (some .int) 2 := ⟨g_1070, g_333, g_48, g_334, ⟨by decide +kernel, by decide +kernel, by decide +kernel⟩⟩
theorem k_L_193 : lkV RL RJ0 193 yJ0_indexOf_0f7a4 cJ0_indexOf_0f7a4 2 (some .int) 1 := ⟨g_1083, g_1084, g_1085, g_44, g_1086, ⟨by decide +kernel, by decide +kernel, by decide +kernel⟩⟩
theorem k_L_196 : lkS RL 196 yL_song cL_song 1 (some .int) 1 := ⟨g_1060, g_1061, g_28, g_1062, ⟨by decide +kernel, by decide +kernel, by decide +kernel⟩⟩
theorem k_L_200 : lkV RL RX9 200 yX9_tankCount cX9_tankCount 1 (some .int) 0 := ⟨g_1063, g_1064, g_1065, g_29, g_1066, ⟨by decide +kernel, by decide +kernel, by decide +kernel⟩⟩
theorem k_L_203 : lkS RL 203 yL_some cL_some 2 (some .int) 2 := ⟨g_1067, g_1068, g_28, g_1069, ⟨by decide +kernel, by decide +kernel, by decide +kernel⟩⟩
theorem k_L_207 : lkV RL RX9 207 yX9_filterCount cX9_filterCount 1 (some .int) 0 := ⟨g_1071, g_1072, g_1073, g_29, g_1074, ⟨by decide +kernel, by decide +kernel, by decide +kernel⟩⟩
theorem k_L_210 : lkS RL 210 yL_kind cL_kind 1 (some .char) 1 := ⟨g_1075, g_1076, g_28, g_1077, ⟨by decide +kernel, by decide +kernel, by decide +kernel⟩⟩
theorem k_L_214 : lkS RL 214 yL_parameter cL_parameter 5 (some .int) 2 := ⟨g_1080, g_1081, g_28, g_1082, ⟨by decide +kernel, by decide +kernel, by decide +kernel⟩⟩
theorem k_L_242 : lkV RL RX9 242 yX9_describeChain cX9_describeChain 3 (some .int) 0 := ⟨g_342, g_343, g_344, g_29, g_345, ⟨by decide +kernel, by decide +kernel, by decide +kernel⟩⟩
theorem k_L_245 : lkS RL 245 yL_said cL_said 4 (some (.object "java/lang/String")) 2 := ⟨g_1154, g_1155, g_28, g_1156, ⟨by decide +kernel, by decide +kernel, by decide +kernel⟩⟩
theorem k_L_249 : lkI RL 249 yJ4_init_a7421 cJ4_init_a7421 2 1 := ⟨g_1367, g_1368, g_56, g_1369, by decide, ⟨by decide +kernel, by decide +kernel, by decide +kernel⟩⟩
theorem k_L_254 : lkV RL RJ4 254 yJ4_append_15ec4 cJ4_append_15ec4 2 (some (.object "java/lang/StringBuilder")) 1 := ⟨g_1387, g_1319, g_1320, g_56, g_1321, ⟨by decide +kernel, by decide +kernel, by decide +kernel⟩⟩
theorem k_L_259 : lkV RL RJ4 259 yJ4_append_bf812 cJ4_append_bf812 2 (some (.object "java/lang/StringBuilder")) 1 := ⟨g_1396, g_1293, g_1294, g_56, g_1295, ⟨by decide +kernel, by decide +kernel, by decide +kernel⟩⟩
theorem k_L_266 : lkV RL RX9 266 yX9_storedTotal cX9_storedTotal 1 (some .int) 0 := ⟨g_1420, g_1421, g_1422, g_29, g_1423, ⟨by decide +kernel, by decide +kernel, by decide +kernel⟩⟩
theorem k_L_269 : lkV RL RX9 269 yX9_droppedTotal cX9_droppedTotal 1 (some .int) 0 := ⟨g_1424, g_1425, g_1426, g_29, g_1427, ⟨by decide +kernel, by decide +kernel, by decide +kernel⟩⟩
theorem k_L_272 : lkV RL RX9 272 yX9_drainedTotal cX9_drainedTotal 1 (some .int) 0 := ⟨g_1428, g_1429, g_1430, g_29, g_1431, ⟨by decide +kernel, by decide +kernel, by decide +kernel⟩⟩
theorem k_L_275 : lkS RL 275 yJ9_min_7cf53 cJ9_min_7cf53 2 (some .int) 2 := ⟨g_1458, g_330, g_48, g_331, ⟨by decide +kernel, by decide +kernel, by decide +kernel⟩⟩
theorem k_L_282 : lkS RL 282 yL_given cL_given 7 (some .int) 4 := ⟨g_1455, g_1456, g_28, g_1457, ⟨by decide +kernel, by decide +kernel, by decide +kernel⟩⟩
theorem k_L_286 : lkS RL 286 yL_filtered cL_filtered 6 (some (.array .int)) 2 := ⟨g_1438, g_1439, g_28, g_1440, ⟨by decide +kernel, by decide +kernel, by decide +kernel⟩⟩
theorem k_L_290 : lkS RL 290 yJ9_abs_0f7a4 cJ9_abs_0f7a4 1 (some .int) 1 := ⟨g_1459, g_416, g_48, g_417, ⟨by decide +kernel, by decide +kernel, by decide +kernel⟩⟩
theorem k_L_293 : lkS RL 293 yJ6_signum_0f7a4 cJ6_signum_0f7a4 1 (some .int) 1 := ⟨g_1460, g_1461, g_59, g_1462, ⟨by decide +kernel, by decide +kernel, by decide +kernel⟩⟩
theorem k_L_333 : lkV RL RJ0 333 yJ0_equals_9ea2d cJ0_equals_9ea2d 3 (some .boolean) 1 := ⟨g_1565, g_1566, g_1567, g_44, g_1568, ⟨by decide +kernel, by decide +kernel, by decide +kernel⟩⟩
theorem k_L_342 : lkV RL RX9 342 yX9_strongestSong cX9_strongestSong 7 (some .int) 0 := ⟨g_278, g_279, g_280, g_29, g_281, ⟨by decide +kernel, by decide +kernel, by decide +kernel⟩⟩
theorem k_L_345 : lkV RL RX9 345 yX9_save cX9_save 1 (some .int) 0 := ⟨g_1577, g_1578, g_1579, g_29, g_1580, ⟨by decide +kernel, by decide +kernel, by decide +kernel⟩⟩
theorem k_L_348 : lkS RL 348 yL_frames cL_frames 5 (some (.array .int)) 2 := ⟨g_1581, g_1582, g_28, g_1583, ⟨by decide +kernel, by decide +kernel, by decide +kernel⟩⟩
theorem k_L_358 : lkI RL 358 yX9_init cX9_init 1 0 := ⟨g_63, g_64, g_29, g_65, by decide, ⟨by decide +kernel, by decide +kernel, by decide +kernel⟩⟩
theorem k_L_367 : lkV RL RX9 367 yX9_isConsistent cX9_isConsistent 2 (some .boolean) 0 := ⟨g_363, g_364, g_365, g_29, g_366, ⟨by decide +kernel, by decide +kernel, by decide +kernel⟩⟩
theorem k_L_371 : lkS RL 371 yL_stock cL_stock 2 (some .int) 1 := ⟨g_1432, g_1433, g_28, g_1434, ⟨by decide +kernel, by decide +kernel, by decide +kernel⟩⟩
theorem k_L_374 : lkS RL 374 yL_cell cL_cell 2 (some .int) 2 := ⟨g_480, g_481, g_28, g_482, ⟨by decide +kernel, by decide +kernel, by decide +kernel⟩⟩
theorem k_L_378 : lkI RL 378 yX10_init cX10_init 2 1 := ⟨g_467, g_468, g_54, g_469, by decide, ⟨by decide +kernel, by decide +kernel, by decide +kernel⟩⟩
theorem k_L_381 : lkS RL 381 yL_told cL_told 4 (some (.object "java/lang/String")) 1 := ⟨g_1149, g_1150, g_28, g_1151, ⟨by decide +kernel, by decide +kernel, by decide +kernel⟩⟩
theorem k_L_385 : lkS RL 385 yL_acts cL_acts 7 (some .int) 3 := ⟨g_1057, g_1058, g_28, g_1059, ⟨by decide +kernel, by decide +kernel, by decide +kernel⟩⟩
theorem k_L_389 : lkS RL 389 yL_samples cL_samples 17 (some .boolean) 3 := ⟨g_1435, g_1436, g_28, g_1437, ⟨by decide +kernel, by decide +kernel, by decide +kernel⟩⟩
theorem k_L_393 : lkS RL 393 yL_tanks cL_tanks 8 (some .boolean) 1 := ⟨g_1507, g_1508, g_28, g_1509, ⟨by decide +kernel, by decide +kernel, by decide +kernel⟩⟩
theorem k_L_397 : lkS RL 397 yL_foretold cL_foretold 14 (some .boolean) 2 := ⟨g_1574, g_1575, g_28, g_1576, ⟨by decide +kernel, by decide +kernel, by decide +kernel⟩⟩
theorem k_X0_22 : lkSN RX0 "SongRefinery" 22 yX9_copyRow cX9_copyRow 2 (none) 2 := ⟨n_641, g_397, g_29, g_398, ⟨by decide +kernel, by decide +kernel, by decide +kernel⟩⟩
theorem k_X0_26 : lkSN RX0 "SongRefinery" 26 yX9_read cX9_read 2 (some .int) 2 := ⟨n_316, g_295, g_29, g_296, ⟨by decide +kernel, by decide +kernel, by decide +kernel⟩⟩
theorem k_X0_30 : lkSN RX0 "SongRefinery" 30 yX9_isWithin cX9_isWithin 3 (some .boolean) 3 := ⟨n_499, g_500, g_29, g_501, ⟨by decide +kernel, by decide +kernel, by decide +kernel⟩⟩
theorem k_X0_34 : lkS RX0 34 yX0_isKindWith cX0_isKindWith 2 (some .boolean) 2 := ⟨g_496, g_497, g_31, g_498, ⟨by decide +kernel, by decide +kernel, by decide +kernel⟩⟩
theorem k_X0_38 : lkSN RX0 "SongRefinery" 38 yX9_write cX9_write 3 (none) 3 := ⟨n_659, g_336, g_29, g_337, ⟨by decide +kernel, by decide +kernel, by decide +kernel⟩⟩
theorem k_X0_42 : lkV RX0 RX0 42 yX0_kindAt cX0_kindAt 2 (some .int) 1 := ⟨g_653, g_313, g_314, g_31, g_315, ⟨by decide +kernel, by decide +kernel, by decide +kernel⟩⟩
theorem k_X0_46 : lkV RX0 RX0 46 yX0_parameterAt cX0_parameterAt 2 (some .int) 1 := ⟨g_654, g_318, g_319, g_31, g_320, ⟨by decide +kernel, by decide +kernel, by decide +kernel⟩⟩
theorem k_X0_49 : lkV RX0 RX0 49 yX0_setFilter cX0_setFilter 4 (none) 3 := ⟨g_655, g_657, g_16, g_31, g_658, ⟨by decide +kernel, by decide +kernel, by decide +kernel⟩⟩
theorem k_X1_31 : lkSN RX1 "SongRefinery" 31 yX9_isWithin cX9_isWithin 3 (some .boolean) 3 := ⟨n_845, g_500, g_29, g_501, ⟨by decide +kernel, by decide +kernel, by decide +kernel⟩⟩
theorem k_X1_35 : lkSN RX1 "SongRefinery" 35 yX9_write cX9_write 3 (none) 3 := ⟨n_850, g_336, g_29, g_337, ⟨by decide +kernel, by decide +kernel, by decide +kernel⟩⟩
theorem k_X1_39 : lkSN RX1 "SongRefinery" 39 yX9_read cX9_read 2 (some .int) 2 := ⟨n_886, g_295, g_29, g_296, ⟨by decide +kernel, by decide +kernel, by decide +kernel⟩⟩
theorem k_X1_43 : lkV RX1 RX1 43 yX1_takeCommand cX1_takeCommand 7 (some .boolean) 0 := ⟨g_862, g_864, g_17, g_36, g_865, ⟨by decide +kernel, by decide +kernel, by decide +kernel⟩⟩
theorem k_X1_47 : lkV RX1 RX1 47 yX1_takeSign cX1_takeSign 2 (some .boolean) 1 := ⟨g_929, g_931, g_21, g_36, g_932, ⟨by decide +kernel, by decide +kernel, by decide +kernel⟩⟩
theorem k_X1_51 : lkV RX1 RX1 51 yX1_characterAt cX1_characterAt 2 (some .int) 1 := ⟨g_882, g_884, g_19, g_36, g_885, ⟨by decide +kernel, by decide +kernel, by decide +kernel⟩⟩
theorem k_X1_65 : lkV RX1 RX1 65 yX1_sameCharacters cX1_sameCharacters 3 (some .int) 1 := ⟨g_868, g_870, g_18, g_36, g_871, ⟨by decide +kernel, by decide +kernel, by decide +kernel⟩⟩
theorem k_X1_69 : lkV RX1 RJ0 69 yJ0_length_8abf5 cJ0_length_8abf5 1 (some .int) 0 := ⟨g_872, g_873, g_874, g_44, g_875, ⟨by decide +kernel, by decide +kernel, by decide +kernel⟩⟩
theorem k_X1_74 : lkV RX1 RX1 74 yX1_takeNumbers cX1_takeNumbers 4 (some .boolean) 1 := ⟨g_925, g_927, g_20, g_36, g_928, ⟨by decide +kernel, by decide +kernel, by decide +kernel⟩⟩
theorem k_X1_78 : lkS RX1 78 yJ9_max_7cf53 cJ9_max_7cf53 2 (some .int) 2 := ⟨g_941, g_333, g_48, g_334, ⟨by decide +kernel, by decide +kernel, by decide +kernel⟩⟩
theorem k_X1_84 : lkV RX1 RJ0 84 yJ0_charAt_5068e cJ0_charAt_5068e 2 (some .char) 1 := ⟨g_887, g_888, g_889, g_44, g_890, ⟨by decide +kernel, by decide +kernel, by decide +kernel⟩⟩
theorem k_X1_91 : lkV RX1 RX1 91 yX1_takeNumber cX1_takeNumber 4 (some .int) 1 := ⟨g_933, g_935, g_22, g_36, g_936, ⟨by decide +kernel, by decide +kernel, by decide +kernel⟩⟩
theorem k_X1_94 : lkV RX1 RJ0 94 yJ0_isEmpty_aae02 cJ0_isEmpty_aae02 1 (some .boolean) 0 := ⟨g_937, g_938, g_939, g_44, g_940, ⟨by decide +kernel, by decide +kernel, by decide +kernel⟩⟩
theorem k_X2_24 : lkIN RX2 "SongRefinery" 24 yX6_init cX6_init 1 0 := ⟨n_632, g_72, g_30, g_73, by decide, ⟨by decide +kernel, by decide +kernel, by decide +kernel⟩⟩
theorem k_X2_25 : lkV RX2 RX2 25 yX2_stateAt cX2_stateAt 4 (some (.object "SongRefinery$State")) 1 := ⟨g_628, g_630, g_15, g_34, g_631, ⟨by decide +kernel, by decide +kernel, by decide +kernel⟩⟩
theorem k_X2_29 : lkV RX2 RX6 29 yX6_copyFrom cX6_copyFrom 2 (none) 1 := ⟨g_633, g_634, g_635, g_30, g_636, ⟨by decide +kernel, by decide +kernel, by decide +kernel⟩⟩
theorem k_X2_33 : lkS RX2 33 yJ9_min_7cf53 cJ9_min_7cf53 2 (some .int) 2 := ⟨g_648, g_330, g_48, g_331, ⟨by decide +kernel, by decide +kernel, by decide +kernel⟩⟩
theorem k_X3_19 : lkSN RX3 "SongRefinery" 19 yX9_read cX9_read 2 (some .int) 2 := ⟨n_993, g_295, g_29, g_296, ⟨by decide +kernel, by decide +kernel, by decide +kernel⟩⟩
theorem k_X3_23 : lkSN RX3 "SongRefinery" 23 yX9_write cX9_write 3 (none) 3 := ⟨n_354, g_336, g_29, g_337, ⟨by decide +kernel, by decide +kernel, by decide +kernel⟩⟩
theorem k_X3_28 : lkV RX3 RX3 28 yX3_putSign cX3_putSign 2 (none) 1 := ⟨g_362, g_351, g_352, g_37, g_353, ⟨by decide +kernel, by decide +kernel, by decide +kernel⟩⟩
theorem k_X4_21 : lkSN RX4 "SongRefinery" 21 yX9_read cX9_read 2 (some .int) 2 := ⟨n_325, g_295, g_29, g_296, ⟨by decide +kernel, by decide +kernel, by decide +kernel⟩⟩
theorem k_X4_25 : lkS RX4 25 yJ7_fill_53178 cJ7_fill_53178 4 (none) 2 := ⟨g_301, g_302, g_50, g_303, ⟨by decide +kernel, by decide +kernel, by decide +kernel⟩⟩
theorem k_X4_37 : lkV RX4 RX5 37 yX5_rawAt cX5_rawAt 3 (some .int) 2 := ⟨g_304, g_305, g_306, g_32, g_307, ⟨by decide +kernel, by decide +kernel, by decide +kernel⟩⟩
theorem k_X4_53 : lkV RX4 RX4 53 yX4_pass cX4_pass 10 (some .int) 4 := ⟨g_308, g_310, g_2, g_35, g_311, ⟨by decide +kernel, by decide +kernel, by decide +kernel⟩⟩
theorem k_X4_57 : lkSN RX4 "SongRefinery" 57 yX9_write cX9_write 3 (none) 3 := ⟨n_335, g_336, g_29, g_337, ⟨by decide +kernel, by decide +kernel, by decide +kernel⟩⟩
theorem k_X4_61 : lkV RX4 RX0 61 yX0_kindAt cX0_kindAt 2 (some .int) 1 := ⟨g_312, g_313, g_314, g_31, g_315, ⟨by decide +kernel, by decide +kernel, by decide +kernel⟩⟩
theorem k_X4_65 : lkV RX4 RX0 65 yX0_parameterAt cX0_parameterAt 2 (some .int) 1 := ⟨g_317, g_318, g_319, g_31, g_320, ⟨by decide +kernel, by decide +kernel, by decide +kernel⟩⟩
theorem k_X4_68 : lkV RX4 RX4 68 yX4_recall cX4_recall 3 (some .int) 2 := ⟨g_321, g_323, g_3, g_35, g_324, ⟨by decide +kernel, by decide +kernel, by decide +kernel⟩⟩
theorem k_X4_71 : lkS RX4 71 yX4_changed cX4_changed 3 (some .int) 3 := ⟨g_326, g_327, g_35, g_328, ⟨by decide +kernel, by decide +kernel, by decide +kernel⟩⟩
theorem k_X4_75 : lkS RX4 75 yJ9_min_7cf53 cJ9_min_7cf53 2 (some .int) 2 := ⟨g_329, g_330, g_48, g_331, ⟨by decide +kernel, by decide +kernel, by decide +kernel⟩⟩
theorem k_X4_80 : lkS RX4 80 yJ9_max_7cf53 cJ9_max_7cf53 2 (some .int) 2 := ⟨g_332, g_333, g_48, g_334, ⟨by decide +kernel, by decide +kernel, by decide +kernel⟩⟩
theorem k_X4_83 : lkV RX4 RX5 83 yX5_samplesOf cX5_samplesOf 2 (some .int) 1 := ⟨g_375, g_291, g_292, g_32, g_293, ⟨by decide +kernel, by decide +kernel, by decide +kernel⟩⟩
theorem k_X4_86 : lkV RX4 RX4 86 yX4_passAll cX4_passAll 5 (none) 3 := ⟨g_376, g_378, g_5, g_35, g_379, ⟨by decide +kernel, by decide +kernel, by decide +kernel⟩⟩
theorem k_X4_90 : lkV RX4 RX4 90 yX4_givenAt cX4_givenAt 6 (some .int) 3 := ⟨g_380, g_382, g_6, g_35, g_383, ⟨by decide +kernel, by decide +kernel, by decide +kernel⟩⟩
theorem k_X4_93 : lkS RX4 93 yJ9_abs_0f7a4 cJ9_abs_0f7a4 1 (some .int) 1 := ⟨g_415, g_416, g_48, g_417, ⟨by decide +kernel, by decide +kernel, by decide +kernel⟩⟩
theorem k_X5_24 : lkSN RX5 "SongRefinery" 24 yX9_copyRow cX9_copyRow 2 (none) 2 := ⟨n_646, g_397, g_29, g_398, ⟨by decide +kernel, by decide +kernel, by decide +kernel⟩⟩
theorem k_X5_28 : lkSN RX5 "SongRefinery" 28 yX9_read cX9_read 2 (some .int) 2 := ⟨n_294, g_295, g_29, g_296, ⟨by decide +kernel, by decide +kernel, by decide +kernel⟩⟩
theorem k_X5_32 : lkV RX5 RX5 32 yX5_samplesOf cX5_samplesOf 2 (some .int) 1 := ⟨g_406, g_291, g_292, g_32, g_293, ⟨by decide +kernel, by decide +kernel, by decide +kernel⟩⟩
theorem k_X5_36 : lkSN RX5 "SongRefinery" 36 yX9_isWithin cX9_isWithin 3 (some .boolean) 3 := ⟨n_721, g_500, g_29, g_501, ⟨by decide +kernel, by decide +kernel, by decide +kernel⟩⟩
theorem k_X5_40 : lkS RX5 40 yX5_faultOfSong cX5_faultOfSong 1 (some .int) 1 := ⟨g_718, g_719, g_32, g_720, ⟨by decide +kernel, by decide +kernel, by decide +kernel⟩⟩
theorem k_X5_43 : lkV RX5 RX5 43 yX5_notesOf cX5_notesOf 2 (some .int) 1 := ⟨g_727, g_728, g_729, g_32, g_730, ⟨by decide +kernel, by decide +kernel, by decide +kernel⟩⟩
theorem k_X5_46 : lkV RX5 RX5 46 yX5_hasSample cX5_hasSample 3 (some .boolean) 2 := ⟨g_1415, g_1416, g_1417, g_32, g_1418, ⟨by decide +kernel, by decide +kernel, by decide +kernel⟩⟩
theorem k_X5_50 : lkSN RX5 "SongRefinery" 50 yX9_write cX9_write 3 (none) 3 := ⟨n_726, g_336, g_29, g_337, ⟨by decide +kernel, by decide +kernel, by decide +kernel⟩⟩
theorem k_X6_9 : lkIN RX6 "SongRefinery" 9 yX0_init cX0_init 1 0 := ⟨n_77, g_78, g_31, g_79, by decide, ⟨by decide +kernel, by decide +kernel, by decide +kernel⟩⟩
theorem k_X6_18 : lkIN RX6 "SongRefinery" 18 yX5_init cX5_init 1 0 := ⟨n_96, g_97, g_32, g_98, by decide, ⟨by decide +kernel, by decide +kernel, by decide +kernel⟩⟩
theorem k_X6_25 : lkIN RX6 "SongRefinery" 25 yX7_init cX7_init 1 0 := ⟨n_115, g_116, g_33, g_117, by decide, ⟨by decide +kernel, by decide +kernel, by decide +kernel⟩⟩
theorem k_X6_30 : lkV RX6 RX0 30 yX0_copyFrom cX0_copyFrom 2 (none) 1 := ⟨g_637, g_638, g_639, g_31, g_640, ⟨by decide +kernel, by decide +kernel, by decide +kernel⟩⟩
theorem k_X6_34 : lkV RX6 RX5 34 yX5_copyFrom cX5_copyFrom 2 (none) 1 := ⟨g_642, g_643, g_644, g_32, g_645, ⟨by decide +kernel, by decide +kernel, by decide +kernel⟩⟩
theorem k_X6_37 : lkV RX6 RX7 37 yX7_copyFrom cX7_copyFrom 2 (none) 1 := ⟨g_647, g_393, g_394, g_33, g_395, ⟨by decide +kernel, by decide +kernel, by decide +kernel⟩⟩
theorem k_X7_37 : lkSN RX7 "SongRefinery" 37 yX9_copyRow cX9_copyRow 2 (none) 2 := ⟨n_396, g_397, g_29, g_398, ⟨by decide +kernel, by decide +kernel, by decide +kernel⟩⟩
theorem k_X7_41 : lkSN RX7 "SongRefinery" 41 yX9_read cX9_read 2 (some .int) 2 := ⟨n_430, g_295, g_29, g_296, ⟨by decide +kernel, by decide +kernel, by decide +kernel⟩⟩
theorem k_X7_45 : lkSN RX7 "SongRefinery" 45 yX9_write cX9_write 3 (none) 3 := ⟨n_447, g_336, g_29, g_337, ⟨by decide +kernel, by decide +kernel, by decide +kernel⟩⟩
theorem k_X7_49 : lkSN RX7 "SongRefinery" 49 yX9_isWithin cX9_isWithin 3 (some .boolean) 3 := ⟨n_776, g_500, g_29, g_501, ⟨by decide +kernel, by decide +kernel, by decide +kernel⟩⟩
theorem k_X7_53 : lkV RX7 RX7 53 yX7_faultOfTank cX7_faultOfTank 2 (some .int) 1 := ⟨g_792, g_793, g_794, g_33, g_795, ⟨by decide +kernel, by decide +kernel, by decide +kernel⟩⟩
theorem k_X7_57 : lkV RX7 RX7 57 yX7_levelOf cX7_levelOf 2 (some .int) 1 := ⟨g_426, g_427, g_428, g_33, g_429, ⟨by decide +kernel, by decide +kernel, by decide +kernel⟩⟩
theorem k_X7_60 : lkV RX7 RX7 60 yX7_tuningOf cX7_tuningOf 2 (some .int) 1 := ⟨g_435, g_436, g_437, g_33, g_438, ⟨by decide +kernel, by decide +kernel, by decide +kernel⟩⟩
theorem k_X7_63 : lkV RX7 RX7 63 yX7_accepts cX7_accepts 3 (some .boolean) 2 := ⟨g_422, g_424, g_9, g_33, g_425, ⟨by decide +kernel, by decide +kernel, by decide +kernel⟩⟩
theorem k_X7_67 : lkV RX7 RX7 67 yX7_roomOf cX7_roomOf 2 (some .int) 1 := ⟨g_439, g_441, g_10, g_33, g_442, ⟨by decide +kernel, by decide +kernel, by decide +kernel⟩⟩
theorem k_X7_70 : lkV RX7 RX7 70 yX7_setFrame cX7_setFrame 4 (none) 3 := ⟨g_443, g_445, g_11, g_33, g_446, ⟨by decide +kernel, by decide +kernel, by decide +kernel⟩⟩
theorem k_X7_74 : lkV RX7 RX7 74 yX7_capacityOf cX7_capacityOf 2 (some .int) 1 := ⟨g_431, g_432, g_433, g_33, g_434, ⟨by decide +kernel, by decide +kernel, by decide +kernel⟩⟩
theorem k_X7_77 : lkV RX7 RX7 77 yX7_frameAt cX7_frameAt 3 (some .int) 2 := ⟨g_822, g_823, g_824, g_33, g_825, ⟨by decide +kernel, by decide +kernel, by decide +kernel⟩⟩
theorem k_X7_81 : lkS RX7 81 yJ9_max_7cf53 cJ9_max_7cf53 2 (some .int) 2 := ⟨g_826, g_333, g_48, g_334, ⟨by decide +kernel, by decide +kernel, by decide +kernel⟩⟩
theorem k_X7_86 : lkV RX7 RX7 86 yX7_tanksAheadOf cX7_tanksAheadOf 4 (some .int) 1 := ⟨g_1556, g_1558, g_26, g_33, g_1559, ⟨by decide +kernel, by decide +kernel, by decide +kernel⟩⟩
theorem k_X7_89 : lkV RX7 RX7 89 yX7_isAhead cX7_isAhead 3 (some .boolean) 2 := ⟨g_1560, g_1562, g_27, g_33, g_1563, ⟨by decide +kernel, by decide +kernel, by decide +kernel⟩⟩
theorem k_X9_9 : lkIN RX9 "SongRefinery" 9 yX6_init cX6_init 1 0 := ⟨n_71, g_72, g_30, g_73, by decide, ⟨by decide +kernel, by decide +kernel, by decide +kernel⟩⟩
theorem k_X9_24 : lkIN RX9 "SongRefinery" 24 yX2_init cX2_init 1 0 := ⟨n_165, g_166, g_34, g_167, by decide, ⟨by decide +kernel, by decide +kernel, by decide +kernel⟩⟩
theorem k_X9_31 : lkIN RX9 "SongRefinery" 31 yX4_init cX4_init 1 0 := ⟨n_184, g_185, g_35, g_186, by decide, ⟨by decide +kernel, by decide +kernel, by decide +kernel⟩⟩
theorem k_X9_38 : lkIN RX9 "SongRefinery" 38 yX7_init cX7_init 1 0 := ⟨n_199, g_116, g_33, g_117, by decide, ⟨by decide +kernel, by decide +kernel, by decide +kernel⟩⟩
theorem k_X9_49 : lkIN RX9 "SongRefinery" 49 yX1_init cX1_init 1 0 := ⟨n_202, g_203, g_36, g_204, by decide, ⟨by decide +kernel, by decide +kernel, by decide +kernel⟩⟩
theorem k_X9_56 : lkIN RX9 "SongRefinery" 56 yX3_init cX3_init 1 0 := ⟨n_229, g_230, g_37, g_231, by decide, ⟨by decide +kernel, by decide +kernel, by decide +kernel⟩⟩
theorem k_X9_76 : lkV RX9 RX0 76 yX0_faultOfNewFilter cX0_faultOfNewFilter 3 (some .int) 2 := ⟨g_492, g_493, g_494, g_31, g_495, ⟨by decide +kernel, by decide +kernel, by decide +kernel⟩⟩
theorem k_X9_82 : lkS RX9 82 yX9_throwFault cX9_throwFault 1 (none) 1 := ⟨g_502, g_503, g_29, g_504, ⟨by decide +kernel, by decide +kernel, by decide +kernel⟩⟩
theorem k_X9_86 : lkV RX9 RX2 86 yX2_push cX2_push 2 (none) 1 := ⟨g_624, g_625, g_626, g_34, g_627, ⟨by decide +kernel, by decide +kernel, by decide +kernel⟩⟩
theorem k_X9_93 : lkV RX9 RX0 93 yX0_putFilter cX0_putFilter 5 (some .int) 3 := ⟨g_649, g_650, g_651, g_31, g_652, ⟨by decide +kernel, by decide +kernel, by decide +kernel⟩⟩
theorem k_X9_97 : lkV RX9 RX0 97 yX0_faultOfNewPosition cX0_faultOfNewPosition 2 (some .int) 1 := ⟨g_688, g_689, g_690, g_31, g_691, ⟨by decide +kernel, by decide +kernel, by decide +kernel⟩⟩
theorem k_X9_101 : lkV RX9 RX0 101 yX0_faultOfPosition cX0_faultOfPosition 2 (some .int) 1 := ⟨g_699, g_700, g_701, g_31, g_702, ⟨by decide +kernel, by decide +kernel, by decide +kernel⟩⟩
theorem k_X9_104 : lkV RX9 RX0 104 yX0_takeFilter cX0_takeFilter 4 (some .int) 1 := ⟨g_703, g_704, g_705, g_31, g_706, ⟨by decide +kernel, by decide +kernel, by decide +kernel⟩⟩
theorem k_X9_107 : lkV RX9 RX0 107 yX0_exchange cX0_exchange 5 (none) 2 := ⟨g_1145, g_1146, g_1147, g_31, g_1148, ⟨by decide +kernel, by decide +kernel, by decide +kernel⟩⟩
theorem k_X9_111 : lkS RX9 111 yJ9_abs_0f7a4 cJ9_abs_0f7a4 1 (some .int) 1 := ⟨g_754, g_416, g_48, g_417, ⟨by decide +kernel, by decide +kernel, by decide +kernel⟩⟩
theorem k_X9_116 : lkV RX9 RX0 116 yX0_kindAt cX0_kindAt 2 (some .int) 1 := ⟨g_355, g_313, g_314, g_31, g_315, ⟨by decide +kernel, by decide +kernel, by decide +kernel⟩⟩
theorem k_X9_119 : lkV RX9 RX0 119 yX0_parameterAt cX0_parameterAt 2 (some .int) 1 := ⟨g_356, g_318, g_319, g_31, g_320, ⟨by decide +kernel, by decide +kernel, by decide +kernel⟩⟩
theorem k_X9_126 : lkV RX9 RX5 126 yX5_faultOfNewNote cX5_faultOfNewNote 5 (some .int) 4 := ⟨g_714, g_715, g_716, g_32, g_717, ⟨by decide +kernel, by decide +kernel, by decide +kernel⟩⟩
theorem k_X9_132 : lkV RX9 RX5 132 yX5_putNote cX5_putNote 9 (some .int) 4 := ⟨g_722, g_723, g_724, g_32, g_725, ⟨by decide +kernel, by decide +kernel, by decide +kernel⟩⟩
theorem k_X9_135 : lkV RX9 RX5 135 yX5_faultOfPlaying cX5_faultOfPlaying 2 (some .int) 1 := ⟨g_739, g_740, g_741, g_32, g_742, ⟨by decide +kernel, by decide +kernel, by decide +kernel⟩⟩
theorem k_X9_138 : lkV RX9 RX5 138 yX5_takeNote cX5_takeNote 4 (some .int) 1 := ⟨g_743, g_744, g_745, g_32, g_746, ⟨by decide +kernel, by decide +kernel, by decide +kernel⟩⟩
theorem k_X9_141 : lkS RX9 141 yX5_faultOfSong cX5_faultOfSong 1 (some .int) 1 := ⟨g_763, g_719, g_32, g_720, ⟨by decide +kernel, by decide +kernel, by decide +kernel⟩⟩
theorem k_X9_144 : lkV RX9 RX5 144 yX5_notesOf cX5_notesOf 2 (some .int) 1 := ⟨g_1395, g_728, g_729, g_32, g_730, ⟨by decide +kernel, by decide +kernel, by decide +kernel⟩⟩
theorem k_X9_147 : lkV RX9 RX5 147 yX5_samplesOf cX5_samplesOf 2 (some .int) 1 := ⟨g_290, g_291, g_292, g_32, g_293, ⟨by decide +kernel, by decide +kernel, by decide +kernel⟩⟩
theorem k_X9_150 : lkV RX9 RX5 150 yX5_faultOfSample cX5_faultOfSample 3 (some .int) 2 := ⟨g_1411, g_1412, g_1413, g_32, g_1414, ⟨by decide +kernel, by decide +kernel, by decide +kernel⟩⟩
theorem k_X9_153 : lkV RX9 RX5 153 yX5_rawAt cX5_rawAt 3 (some .int) 2 := ⟨g_1419, g_305, g_306, g_32, g_307, ⟨by decide +kernel, by decide +kernel, by decide +kernel⟩⟩
theorem k_X9_156 : lkV RX9 RX9 156 yX9_filteredOrZero cX9_filteredOrZero 3 (some .int) 2 := ⟨g_1470, g_1472, g_25, g_29, g_1473, ⟨by decide +kernel, by decide +kernel, by decide +kernel⟩⟩
theorem k_X9_159 : lkV RX9 RX4 159 yX4_sendByFilter cX4_sendByFilter 5 (none) 2 := ⟨g_371, g_372, g_373, g_35, g_374, ⟨by decide +kernel, by decide +kernel, by decide +kernel⟩⟩
theorem k_X9_163 : lkV RX9 RX4 163 yX4_givenByFilter cX4_givenByFilter 2 (some .int) 1 := ⟨g_384, g_385, g_386, g_35, g_387, ⟨by decide +kernel, by decide +kernel, by decide +kernel⟩⟩
theorem k_X9_166 : lkV RX9 RX5 166 yX5_hasSample cX5_hasSample 3 (some .boolean) 2 := ⟨g_1474, g_1416, g_1417, g_32, g_1418, ⟨by decide +kernel, by decide +kernel, by decide +kernel⟩⟩
theorem k_X9_177 : lkV RX9 RX9 177 yX9_sendSong cX9_sendSong 3 (some .int) 1 := ⟨g_286, g_288, g_1, g_29, g_289, ⟨by decide +kernel, by decide +kernel, by decide +kernel⟩⟩
theorem k_X9_180 : lkV RX9 RX4 180 yX4_given cX4_given 2 (some .int) 1 := ⟨g_338, g_339, g_340, g_35, g_341, ⟨by decide +kernel, by decide +kernel, by decide +kernel⟩⟩
theorem k_X9_183 : lkS RX9 183 yJ9_max_7cf53 cJ9_max_7cf53 2 (some .int) 2 := ⟨g_755, g_333, g_48, g_334, ⟨by decide +kernel, by decide +kernel, by decide +kernel⟩⟩
theorem k_X9_186 : lkV RX9 RX9 186 yX9_sumOfSquares cX9_sumOfSquares 8 (some .long) 1 := ⟨g_282, g_284, g_0, g_29, g_285, ⟨by decide +kernel, by decide +kernel, by decide +kernel⟩⟩
theorem k_X9_190 : lkS RX9 190 yX9_signOf cX9_signOf 1 (some .int) 1 := ⟨g_1497, g_1498, g_29, g_1499, ⟨by decide +kernel, by decide +kernel, by decide +kernel⟩⟩
theorem k_X9_196 : lkV RX9 RX7 196 yX7_faultOfNewTank cX7_faultOfNewTank 2 (some .int) 1 := ⟨g_772, g_773, g_774, g_33, g_775, ⟨by decide +kernel, by decide +kernel, by decide +kernel⟩⟩
theorem k_X9_199 : lkV RX9 RX7 199 yX7_putTank cX7_putTank 3 (some .int) 1 := ⟨g_777, g_778, g_779, g_33, g_780, ⟨by decide +kernel, by decide +kernel, by decide +kernel⟩⟩
theorem k_X9_202 : lkV RX9 RX7 202 yX7_faultOfNewTuning cX7_faultOfNewTuning 3 (some .int) 2 := ⟨g_788, g_789, g_790, g_33, g_791, ⟨by decide +kernel, by decide +kernel, by decide +kernel⟩⟩
theorem k_X9_205 : lkV RX9 RX7 205 yX7_tune cX7_tune 4 (some .int) 2 := ⟨g_796, g_797, g_798, g_33, g_799, ⟨by decide +kernel, by decide +kernel, by decide +kernel⟩⟩
theorem k_X9_208 : lkV RX9 RX9 208 yX9_pourSong cX9_pourSong 8 (some .int) 3 := ⟨g_407, g_409, g_8, g_29, g_410, ⟨by decide +kernel, by decide +kernel, by decide +kernel⟩⟩
theorem k_X9_212 : lkV RX9 RX7 212 yX7_faultOfDraining cX7_faultOfDraining 3 (some .int) 2 := ⟨g_814, g_815, g_816, g_33, g_817, ⟨by decide +kernel, by decide +kernel, by decide +kernel⟩⟩
theorem k_X9_215 : lkV RX9 RX7 215 yX7_takeFrames cX7_takeFrames 6 (some .int) 2 := ⟨g_818, g_819, g_820, g_33, g_821, ⟨by decide +kernel, by decide +kernel, by decide +kernel⟩⟩
theorem k_X9_219 : lkV RX9 RX7 219 yX7_faultOfTank cX7_faultOfTank 2 (some .int) 1 := ⟨g_1385, g_793, g_794, g_33, g_795, ⟨by decide +kernel, by decide +kernel, by decide +kernel⟩⟩
theorem k_X9_222 : lkV RX9 RX7 222 yX7_capacityOf cX7_capacityOf 2 (some .int) 1 := ⟨g_452, g_432, g_433, g_33, g_434, ⟨by decide +kernel, by decide +kernel, by decide +kernel⟩⟩
theorem k_X9_225 : lkV RX9 RX7 225 yX7_tuningOf cX7_tuningOf 2 (some .int) 1 := ⟨g_459, g_436, g_437, g_33, g_438, ⟨by decide +kernel, by decide +kernel, by decide +kernel⟩⟩
theorem k_X9_228 : lkV RX9 RX7 228 yX7_levelOf cX7_levelOf 2 (some .int) 1 := ⟨g_453, g_427, g_428, g_33, g_429, ⟨by decide +kernel, by decide +kernel, by decide +kernel⟩⟩
theorem k_X9_231 : lkV RX9 RX7 231 yX7_faultOfFrame cX7_faultOfFrame 3 (some .int) 2 := ⟨g_1541, g_1542, g_1543, g_33, g_1544, ⟨by decide +kernel, by decide +kernel, by decide +kernel⟩⟩
theorem k_X9_234 : lkV RX9 RX7 234 yX7_frameAt cX7_frameAt 3 (some .int) 2 := ⟨g_1386, g_823, g_824, g_33, g_825, ⟨by decide +kernel, by decide +kernel, by decide +kernel⟩⟩
theorem k_X9_237 : lkV RX9 RX5 237 yX5_framesOf cX5_framesOf 2 (some .int) 1 := ⟨g_402, g_403, g_404, g_32, g_405, ⟨by decide +kernel, by decide +kernel, by decide +kernel⟩⟩
theorem k_X9_240 : lkV RX9 RX9 240 yX9_dropsOnCopy cX9_dropsOnCopy 2 (some .int) 1 := ⟨g_388, g_390, g_7, g_29, g_391, ⟨by decide +kernel, by decide +kernel, by decide +kernel⟩⟩
theorem k_X9_243 : lkV RX9 RX9 243 yX9_dropsFromLevels cX9_dropsFromLevels 7 (some .int) 1 := ⟨g_448, g_450, g_12, g_29, g_451, ⟨by decide +kernel, by decide +kernel, by decide +kernel⟩⟩
theorem k_X9_246 : lkV RX9 RX7 246 yX7_tankBehind cX7_tankBehind 3 (some .int) 1 := ⟨g_1552, g_1553, g_1554, g_33, g_1555, ⟨by decide +kernel, by decide +kernel, by decide +kernel⟩⟩
theorem k_X9_260 : lkV RX9 RX1 260 yX1_faultOfCharacter cX1_faultOfCharacter 2 (some .int) 1 := ⟨g_841, g_842, g_843, g_36, g_844, ⟨by decide +kernel, by decide +kernel, by decide +kernel⟩⟩
theorem k_X9_264 : lkV RX9 RX1 264 yX1_putCharacter cX1_putCharacter 2 (some .int) 1 := ⟨g_846, g_847, g_848, g_36, g_849, ⟨by decide +kernel, by decide +kernel, by decide +kernel⟩⟩
theorem k_X9_267 : lkV RX9 RX1 267 yX1_parse cX1_parse 2 (some .boolean) 0 := ⟨g_858, g_859, g_860, g_36, g_861, ⟨by decide +kernel, by decide +kernel, by decide +kernel⟩⟩
theorem k_X9_271 : lkV RX9 RX1 271 yX1_clear cX1_clear 1 (none) 0 := ⟨g_942, g_943, g_944, g_36, g_945, ⟨by decide +kernel, by decide +kernel, by decide +kernel⟩⟩
theorem k_X9_282 : lkV RX9 RX6 282 yX6_copyFrom cX6_copyFrom 2 (none) 1 := ⟨g_947, g_634, g_635, g_30, g_636, ⟨by decide +kernel, by decide +kernel, by decide +kernel⟩⟩
theorem k_X9_288 : lkV RX9 RX9 288 yX9_faultOfCommand cX9_faultOfCommand 5 (some .int) 2 := ⟨g_948, g_950, g_23, g_29, g_951, ⟨by decide +kernel, by decide +kernel, by decide +kernel⟩⟩
theorem k_X9_297 : lkV RX9 RX9 297 yX9_carryOut cX9_carryOut 5 (none) 2 := ⟨g_961, g_963, g_24, g_29, g_964, ⟨by decide +kernel, by decide +kernel, by decide +kernel⟩⟩
theorem k_X9_304 : lkV RX9 RX3 304 yX3_clear cX3_clear 1 (none) 0 := ⟨g_346, g_347, g_348, g_37, g_349, ⟨by decide +kernel, by decide +kernel, by decide +kernel⟩⟩
theorem k_X9_305 : lkV RX9 RX3 305 yX3_putSign cX3_putSign 2 (none) 1 := ⟨g_350, g_351, g_352, g_37, g_353, ⟨by decide +kernel, by decide +kernel, by decide +kernel⟩⟩
theorem k_X9_308 : lkV RX9 RX3 308 yX3_putNumber cX3_putNumber 3 (none) 1 := ⟨g_357, g_358, g_359, g_37, g_360, ⟨by decide +kernel, by decide +kernel, by decide +kernel⟩⟩
theorem k_X9_319 : lkV RX9 RX3 319 yX3_signAt cX3_signAt 2 (some .int) 1 := ⟨g_989, g_990, g_991, g_37, g_992, ⟨by decide +kernel, by decide +kernel, by decide +kernel⟩⟩
theorem k_X9_327 : lkV RX9 RX7 327 yX7_sumOfCapacities cX7_sumOfCapacities 3 (some .int) 0 := ⟨g_1027, g_1028, g_1029, g_33, g_1030, ⟨by decide +kernel, by decide +kernel, by decide +kernel⟩⟩
theorem k_X9_333 : lkV RX9 RX7 333 yX7_sumOfLevels cX7_sumOfLevels 3 (some .int) 0 := ⟨g_461, g_462, g_463, g_33, g_464, ⟨by decide +kernel, by decide +kernel, by decide +kernel⟩⟩
theorem k_X9_336 : lkV RX9 RX9 336 yX9_bothWaysAgree cX9_bothWaysAgree 4 (some .boolean) 1 := ⟨g_367, g_369, g_4, g_29, g_370, ⟨by decide +kernel, by decide +kernel, by decide +kernel⟩⟩
theorem k_X9_343 : lkV RX9 RX2 343 yX2_popInto cX2_popInto 2 (none) 1 := ⟨g_1041, g_1042, g_1043, g_34, g_1044, ⟨by decide +kernel, by decide +kernel, by decide +kernel⟩⟩
theorem k_X9_348 : lkV RX9 RX2 348 yX2_clear cX2_clear 1 (none) 0 := ⟨g_1053, g_1054, g_1055, g_34, g_1056, ⟨by decide +kernel, by decide +kernel, by decide +kernel⟩⟩
theorem k_X9_363 : lkV RX9 RX4 363 yX4_send cX4_send 7 (none) 3 := ⟨g_297, g_298, g_299, g_35, g_300, ⟨by decide +kernel, by decide +kernel, by decide +kernel⟩⟩
theorem k_X9_367 : lkV RX9 RX4 367 yX4_loudnessOf cX4_loudnessOf 7 (some .int) 2 := ⟨g_411, g_412, g_413, g_35, g_414, ⟨by decide +kernel, by decide +kernel, by decide +kernel⟩⟩
theorem k_X9_370 : lkV RX9 RX7 370 yX7_store cX7_store 4 (some .boolean) 1 := ⟨g_418, g_419, g_420, g_33, g_421, ⟨by decide +kernel, by decide +kernel, by decide +kernel⟩⟩
theorem k_X9_373 : lkV RX9 RX7 373 yX7_copyFrom cX7_copyFrom 2 (none) 1 := ⟨g_392, g_393, g_394, g_33, g_395, ⟨by decide +kernel, by decide +kernel, by decide +kernel⟩⟩
theorem k_X9_376 : lkS RX9 376 yX9_write cX9_write 3 (none) 3 := ⟨g_454, g_336, g_29, g_337, ⟨by decide +kernel, by decide +kernel, by decide +kernel⟩⟩
theorem k_X9_380 : lkV RX9 RX9 380 yX9_roomiestFor cX9_roomiestFor 5 (some .int) 1 := ⟨g_455, g_457, g_13, g_29, g_458, ⟨by decide +kernel, by decide +kernel, by decide +kernel⟩⟩
theorem k_X9_383 : lkS RX9 383 yX9_read cX9_read 2 (some .int) 2 := ⟨g_460, g_295, g_29, g_296, ⟨by decide +kernel, by decide +kernel, by decide +kernel⟩⟩
theorem k_X9_387 : lkV RX9 RX1 387 yX1_numberAt cX1_numberAt 3 (some .int) 2 := ⟨g_952, g_953, g_954, g_36, g_955, ⟨by decide +kernel, by decide +kernel, by decide +kernel⟩⟩
theorem k_X9_390 : lkV RX9 RX1 390 yX1_signAt cX1_signAt 2 (some .int) 1 := ⟨g_956, g_957, g_958, g_36, g_959, ⟨by decide +kernel, by decide +kernel, by decide +kernel⟩⟩
