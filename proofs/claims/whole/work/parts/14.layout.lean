/-! THE CLASS'S WORLD: cells (b, o): b = 0, 1, 2 the states now, trial, snapshot, 3..10 those of the ring, 11 the tanks' copy; o = 0..13 a state's cells, 14..27 (at b = 0) the rest -/
abbrev CM : Type := Nat → Nat → Nat → Int32
abbrev MM : Type := Nat → Nat → Int32
def up2 (μ : CM) (b o : Nat) (f : Nat → Int32) : CM := fun b2 o2 => if b2 = b ∧ o2 = o then f else μ b2 o2
def up1 (μ : MM) (i : Nat) (f : Nat → Int32) : MM := fun j => if j = i then f else μ j
def aLen : Nat → Option Nat
  | 2 => some 8
  | 3 => some 8
  | 5 => some 640
  | 6 => some 640
  | 7 => some 4
  | 8 => some 4
  | 10 => some 4
  | 11 => some 4
  | 12 => some 4
  | 13 => some 36
  | 18 => some 64
  | 19 => some 160
  | 20 => some 160
  | 21 => some 4
  | 23 => some 60
  | 24 => some 12
  | 25 => some 48
  | 27 => some 80
  | _ => none
def cEo (Z : ZT) (A : Nat × Nat → Nat) (g : Nat → Bool) (μ : CM) (b : Nat) : Nat → va_E
  | 0 => .inr (8, [.ref (A (b, 1)), .ref (A (b, 4)), .ref (A (b, 9))])
  | 1 => .inr (2, [.ref (A (b, 2)), .ref (A (b, 3)), .int (μ b 1 2)])
  | 2 => .inl (zI Z, 8, .inl (μ b 2))
  | 3 => .inl (zI Z, 8, .inl (μ b 3))
  | 4 => .inr (7, [.ref (A (b, 5)), .ref (A (b, 6)), .ref (A (b, 7)), .ref (A (b, 8))])
  | 5 => .inl (zI Z, 640, .inl (μ b 5))
  | 6 => .inl (zI Z, 640, .inl (μ b 6))
  | 7 => .inl (zI Z, 4, .inl (μ b 7))
  | 8 => .inl (zI Z, 4, .inl (μ b 8))
  | 9 => .inr (9, [.ref (A (b, 10)), .ref (A (b, 11)), .ref (A (b, 12)), .ref (A (b, 13)), .int (μ b 9 4), .int (μ b 9 5), .int (μ b 9 6), .int (μ b 9 7)])
  | 10 => .inl (zI Z, 4, .inl (μ b 10))
  | 11 => .inl (zI Z, 4, .inl (μ b 11))
  | 12 => .inl (zI Z, 4, .inl (μ b 12))
  | 13 => .inl (zI Z, 36, .inl (μ b 13))
  | 14 => .inr (10, [.ref (A (0, 0)), .ref (A (1, 0)), .ref (A (2, 0)), .ref (A (0, 15)), .ref (A (0, 17)), .ref (A (11, 9)), .ref (A (0, 21)), .ref (A (0, 22)), .ref (A (0, 26)), .int (μ b 14 9), .int (μ b 14 10), .int (μ b 14 11)])
  | 15 => .inr (4, [.ref (A (0, 16)), .int (μ b 15 1), .int (μ b 15 2)])
  | 16 => .inl (zR Z, 8, .inr (.inr (.inr (.inr (fun j => if g j then some (A (j + 3, 0)) else none)))))
  | 17 => .inr (6, [.ref (A (0, 18)), .ref (A (0, 19)), .ref (A (0, 20))])
  | 18 => .inl (zI Z, 64, .inl (μ b 18))
  | 19 => .inl (zI Z, 160, .inl (μ b 19))
  | 20 => .inl (zI Z, 160, .inl (μ b 20))
  | 21 => .inl (zI Z, 4, .inl (μ b 21))
  | 22 => .inr (3, [.ref (A (0, 23)), .int (μ b 22 1), .ref (A (0, 24)), .ref (A (0, 25)), .int (μ b 22 4), .int (μ b 22 5)])
  | 23 => .inl (zI Z, 60, .inl (μ b 23))
  | 24 => .inl (zI Z, 12, .inl (μ b 24))
  | 25 => .inl (zI Z, 48, .inl (μ b 25))
  | 26 => .inr (5, [.ref (A (0, 27)), .int (μ b 26 1)])
  | 27 => .inl (zI Z, 80, .inl (μ b 27))
  | _ => .inr (0, [])
def cE (Z : ZT) (A : Nat × Nat → Nat) (g : Nat → Bool) (μ : CM) (x : Nat × Nat) : va_E := cEo Z A g μ x.1 x.2
def liveB (g : Nat → Bool) (b o : Nat) : Bool := (decide (b < 3) && decide (o < 14)) || (decide (b = 0) && decide (14 ≤ o)) || (decide (b = 11) && decide (9 ≤ o) && decide (o < 14)) || (decide (3 ≤ b) && decide (b < 11) && decide (o < 14) && g (b - 3))
def ids (g : Nat → Bool) : List (Nat × Nat) := (List.range 12).flatMap (fun b => ((List.range 28).filter (fun o => liveB g b o)).map (fun o => (b, o)))
theorem ids_mem {g : Nat → Bool} {b o : Nat} : (b, o) ∈ ids g ↔ b < 12 ∧ o < 28 ∧ liveB g b o = true := by
  simp [ids, List.mem_flatMap, List.mem_map, List.mem_filter, List.mem_range]
/-- a whole state stands at b -/
def sB (g : Nat → Bool) (b : Nat) : Prop := b < 3 ∨ (3 ≤ b ∧ b < 11 ∧ g (b - 3) = true)
def tB (g : Nat → Bool) (b : Nat) : Prop := sB g b ∨ b = 11
theorem sB_0 {g : Nat → Bool} : sB g 0 := Or.inl (by decide)
theorem sB_1 {g : Nat → Bool} : sB g 1 := Or.inl (by decide)
theorem sB_2 {g : Nat → Bool} : sB g 2 := Or.inl (by decide)
theorem tB_11 {g : Nat → Bool} : tB g 11 := Or.inr rfl
theorem in_s {g : Nat → Bool} {b o : Nat} (h : sB g b) (ho : o < 14) : (b, o) ∈ ids g := by
  rw [ids_mem]
  rcases h with h | ⟨h1, h2, h3⟩
  · refine ⟨by omega, by omega, ?_⟩
    simp [liveB, h, ho]
  · refine ⟨by omega, by omega, ?_⟩
    simp [liveB, h1, h2, h3, ho]
theorem in_t {g : Nat → Bool} {b o : Nat} (h : tB g b) (h9 : 9 ≤ o) (ho : o < 14) : (b, o) ∈ ids g := by
  rcases h with h | h
  · exact in_s h ho
  · subst h
    rw [ids_mem]
    refine ⟨by omega, by omega, ?_⟩
    simp [liveB, h9, ho]
theorem in_r {g : Nat → Bool} {o : Nat} (h1 : 14 ≤ o) (h2 : o < 28) : (0, o) ∈ ids g := by
  rw [ids_mem]
  refine ⟨by omega, by omega, ?_⟩
  simp [liveB, h1]
theorem up2_s (μ : CM) (b o : Nat) (f : Nat → Int32) : up2 μ b o f b o = f := by simp [up2]
theorem up2_n {μ : CM} {b o b2 o2 : Nat} {f : Nat → Int32} (h : ¬ (b2 = b ∧ o2 = o)) : up2 μ b o f b2 o2 = μ b2 o2 := by simp [up2, h]
theorem up1_s (μ : MM) (i : Nat) (f : Nat → Int32) : up1 μ i f i = f := by simp [up1]
theorem up1_n {μ : MM} {i j : Nat} {f : Nat → Int32} (h : ¬ j = i) : up1 μ i f j = μ j := by simp [up1, h]
theorem cE_arr {Z : ZT} {A : Nat × Nat → Nat} {g : Nat → Bool} {μ : CM} {b o n : Nat} (h : aLen o = some n) : cE Z A g μ (b, o) = .inl (zI Z, n, .inl (μ b o)) := by
  unfold aLen at h
  split at h <;> first | (cases h; rfl) | cases h
theorem cE_lt {o n : Nat} (h : aLen o = some n) : o < 28 := by
  unfold aLen at h
  split at h <;> first | omega | cases h
theorem cEo_cong {Z : ZT} {A : Nat × Nat → Nat} {g : Nat → Bool} {μ ν : CM} {b o : Nat} (h : μ b o = ν b o) : cEo Z A g μ b o = cEo Z A g ν b o := by
  unfold cEo
  split <;> first | rfl | (rw [h])
theorem cE_up {Z : ZT} {A : Nat × Nat → Nat} {g : Nat → Bool} {μ : CM} {b o : Nat} {f : Nat → Int32} (y : Nat × Nat) (h : y ≠ (b, o)) : cE Z A g (up2 μ b o f) y = cE Z A g μ y := by
  obtain ⟨b2, o2⟩ := y
  exact cEo_cong (up2_n (fun z => h (Prod.ext z.1 z.2)))
theorem cE_upA {Z : ZT} {A : Nat × Nat → Nat} {g : Nat → Bool} {μ : CM} {b o n : Nat} {f : Nat → Int32} (h : aLen o = some n) : cE Z A g (up2 μ b o f) (b, o) = .inl (zI Z, n, .inl f) := by
  rw [cE_arr h, up2_s]
/-! THE MODEL'S WORLD: 0 the object, 1..12 its rows -/
def mLen : Nat → Nat
  | 1 => 1357
  | 2 => 1357
  | 3 => 1357
  | 4 => 1357
  | 5 => 10856
  | 6 => 160
  | 7 => 160
  | 8 => 60
  | 9 => 80
  | 10 => 12
  | 11 => 63
  | 12 => 13
  | _ => 0
def mE (Z : ZT) (A : Nat → Nat) (μ : MM) : Nat → va_E
  | 0 => .inr (11, [.int (μ 0 0), .int (μ 0 1), .int (μ 0 2), .int (μ 0 3), .int (μ 0 4), .ref (A 1), .ref (A 2), .ref (A 3), .ref (A 4), .ref (A 5), .ref (A 6), .ref (A 7), .ref (A 8), .ref (A 9), .ref (A 10), .ref (A 11), .ref (A 12), .int (μ 0 17), .int (μ 0 18), .int (μ 0 19), .int (μ 0 20), .int (μ 0 21), .int (μ 0 22)])
  | i + 1 => .inl (zI Z, mLen (i + 1), .inl (μ (i + 1)))
abbrev mds : List Nat := List.range 13
theorem mE_arr {Z : ZT} {A : Nat → Nat} {μ : MM} {i : Nat} (h : 0 < i) : mE Z A μ i = .inl (zI Z, mLen i, .inl (μ i)) := by
  cases i with
  | zero => omega
  | succ i => rfl
theorem mE_up {Z : ZT} {A : Nat → Nat} {μ : MM} {i : Nat} {f : Nat → Int32} (y : Nat) (h : y ≠ i) : mE Z A (up1 μ i f) y = mE Z A μ y := by
  cases y with
  | zero => simp only [mE]; rw [up1_n h]
  | succ y => simp only [mE]; rw [up1_n h]
theorem in_RX0 : ∀ w ∈ u_ws RX0 TX0 3, w ∈ GT := by
  intro w hw
  obtain ⟨k, hk, rfl⟩ := List.mem_map.mp hw
  have hk := List.mem_range.mp hk
  match k, hk with
  | 0, _ => exact g_118
  | 1, _ => exact g_120
  | 2, _ => exact g_122
  | k + 3, h => omega
theorem in_RX1 : ∀ w ∈ u_ws RX1 TX1 6, w ∈ GT := by
  intro w hw
  obtain ⟨k, hk, rfl⟩ := List.mem_map.mp hw
  have hk := List.mem_range.mp hk
  match k, hk with
  | 0, _ => exact g_246
  | 1, _ => exact g_248
  | 2, _ => exact g_250
  | 3, _ => exact g_252
  | 4, _ => exact g_254
  | 5, _ => exact g_256
  | k + 6, h => omega
theorem in_RX2 : ∀ w ∈ u_ws RX2 TX2 3, w ∈ GT := by
  intro w hw
  obtain ⟨k, hk, rfl⟩ := List.mem_map.mp hw
  have hk := List.mem_range.mp hk
  match k, hk with
  | 0, _ => exact g_207
  | 1, _ => exact g_209
  | 2, _ => exact g_211
  | k + 3, h => omega
theorem in_RX3 : ∀ w ∈ u_ws RX3 TX3 2, w ∈ GT := by
  intro w hw
  obtain ⟨k, hk, rfl⟩ := List.mem_map.mp hw
  have hk := List.mem_range.mp hk
  match k, hk with
  | 0, _ => exact g_268
  | 1, _ => exact g_270
  | k + 2, h => omega
theorem in_RX4 : ∀ w ∈ u_ws RX4 TX4 3, w ∈ GT := by
  intro w hw
  obtain ⟨k, hk, rfl⟩ := List.mem_map.mp hw
  have hk := List.mem_range.mp hk
  match k, hk with
  | 0, _ => exact g_223
  | 1, _ => exact g_225
  | 2, _ => exact g_227
  | k + 3, h => omega
theorem in_RX5 : ∀ w ∈ u_ws RX5 TX5 4, w ∈ GT := by
  intro w hw
  obtain ⟨k, hk, rfl⟩ := List.mem_map.mp hw
  have hk := List.mem_range.mp hk
  match k, hk with
  | 0, _ => exact g_136
  | 1, _ => exact g_138
  | 2, _ => exact g_140
  | 3, _ => exact g_142
  | k + 4, h => omega
theorem in_RX6 : ∀ w ∈ u_ws RX6 TX6 3, w ∈ GT := by
  intro w hw
  obtain ⟨k, hk, rfl⟩ := List.mem_map.mp hw
  have hk := List.mem_range.mp hk
  match k, hk with
  | 0, _ => exact g_188
  | 1, _ => exact g_190
  | 2, _ => exact g_192
  | k + 3, h => omega
theorem in_RX7 : ∀ w ∈ u_ws RX7 TX7 8, w ∈ GT := by
  intro w hw
  obtain ⟨k, hk, rfl⟩ := List.mem_map.mp hw
  have hk := List.mem_range.mp hk
  match k, hk with
  | 0, _ => exact g_163
  | 1, _ => exact g_165
  | 2, _ => exact g_167
  | 3, _ => exact g_169
  | 4, _ => exact g_171
  | 5, _ => exact g_173
  | 6, _ => exact g_175
  | 7, _ => exact g_177
  | k + 8, h => omega
theorem in_RX9 : ∀ w ∈ u_ws RX9 TX9 12, w ∈ GT := by
  intro w hw
  obtain ⟨k, hk, rfl⟩ := List.mem_map.mp hw
  have hk := List.mem_range.mp hk
  match k, hk with
  | 0, _ => exact g_285
  | 1, _ => exact g_287
  | 2, _ => exact g_289
  | 3, _ => exact g_291
  | 4, _ => exact g_293
  | 5, _ => exact g_295
  | 6, _ => exact g_297
  | 7, _ => exact g_299
  | 8, _ => exact g_301
  | 9, _ => exact g_303
  | 10, _ => exact g_305
  | 11, _ => exact g_307
  | k + 12, h => omega
theorem in_RX10 : ∀ w ∈ u_ws RX10 TX10 23, w ∈ GT := by
  intro w hw
  obtain ⟨k, hk, rfl⟩ := List.mem_map.mp hw
  have hk := List.mem_range.mp hk
  match k, hk with
  | 0, _ => exact g_1288
  | 1, _ => exact g_1290
  | 2, _ => exact g_1292
  | 3, _ => exact g_1294
  | 4, _ => exact g_1296
  | 5, _ => exact g_1298
  | 6, _ => exact g_1300
  | 7, _ => exact g_1302
  | 8, _ => exact g_1304
  | 9, _ => exact g_1306
  | 10, _ => exact g_1308
  | 11, _ => exact g_1310
  | 12, _ => exact g_1312
  | 13, _ => exact g_1314
  | 14, _ => exact g_1316
  | 15, _ => exact g_1318
  | 16, _ => exact g_1320
  | 17, _ => exact g_1322
  | 18, _ => exact g_1324
  | 19, _ => exact g_1326
  | 20, _ => exact g_1328
  | 21, _ => exact g_1330
  | 22, _ => exact g_1332
  | k + 23, h => omega
section GF
variable {p : Program} {l : Launch} {e : Env} {R : Room} {s : State} {m : MethodId} {args : Array Value} {below : List Frame} {meth : Method} {c : Code} {H : Heap} {locs : List Loc} {cells slots : Nat} {Q : State → Prop}
variable {Z : ZT} {A : Nat × Nat → Nat} {g : Nat → Bool} {μ : CM} {B : Nat → Nat} {ν : MM} {A0 : Nat → Prop} {cc : ByteArray} {nL pc : Nat} {ls : Array Slot} {rest : List Value}
theorem gf_X0_9 (S : CallFix p m c cc nL s args GT RX0) (hW : wX Z (ids g) A (cE Z A g μ) A0 s H locs) {b : Nat} (hb : sB g b) (hd : decode cc pc = .ok (.getfield 9, 3)) (k : W p l e R s m args below meth c H locs cells slots Q (F0 m (pc + 3) ls (.ref (A (b, 2)) :: rest))) : W p l e R s m args below meth c H locs cells slots Q (F0 m pc ls (.ref (A (b, 1)) :: rest)) :=
  r_get S hW (in_s hb (by decide)) rfl rfl in_RX0 0 (by decide) g_113 rfl hd k
theorem gf_X0_15 (S : CallFix p m c cc nL s args GT RX0) (hW : wX Z (ids g) A (cE Z A g μ) A0 s H locs) {b : Nat} (hb : sB g b) (hd : decode cc pc = .ok (.getfield 15, 3)) (k : W p l e R s m args below meth c H locs cells slots Q (F0 m (pc + 3) ls (.ref (A (b, 3)) :: rest))) : W p l e R s m args below meth c H locs cells slots Q (F0 m pc ls (.ref (A (b, 1)) :: rest)) :=
  r_get S hW (in_s hb (by decide)) rfl rfl in_RX0 1 (by decide) g_114 rfl hd k
theorem gf_X0_18 (S : CallFix p m c cc nL s args GT RX0) (hW : wX Z (ids g) A (cE Z A g μ) A0 s H locs) {b : Nat} (hb : sB g b) (hd : decode cc pc = .ok (.getfield 18, 3)) (k : W p l e R s m args below meth c H locs cells slots Q (F0 m (pc + 3) ls (.int (μ b 1 2) :: rest))) : W p l e R s m args below meth c H locs cells slots Q (F0 m pc ls (.ref (A (b, 1)) :: rest)) :=
  r_get S hW (in_s hb (by decide)) rfl rfl in_RX0 2 (by decide) g_115 rfl hd k
theorem gf_X1_9 (S : CallFix p m c cc nL s args GT RX1) (hW : wX Z (ids g) A (cE Z A g μ) A0 s H locs) (hd : decode cc pc = .ok (.getfield 9, 3)) (k : W p l e R s m args below meth c H locs cells slots Q (F0 m (pc + 3) ls (.ref (A (0, 23)) :: rest))) : W p l e R s m args below meth c H locs cells slots Q (F0 m pc ls (.ref (A (0, 22)) :: rest)) :=
  r_get S hW (in_r (by decide) (by decide)) rfl rfl in_RX1 0 (by decide) g_238 rfl hd k
theorem gf_X1_15 (S : CallFix p m c cc nL s args GT RX1) (hW : wX Z (ids g) A (cE Z A g μ) A0 s H locs) (hd : decode cc pc = .ok (.getfield 15, 3)) (k : W p l e R s m args below meth c H locs cells slots Q (F0 m (pc + 3) ls (.int (μ 0 22 1) :: rest))) : W p l e R s m args below meth c H locs cells slots Q (F0 m pc ls (.ref (A (0, 22)) :: rest)) :=
  r_get S hW (in_r (by decide) (by decide)) rfl rfl in_RX1 1 (by decide) g_239 rfl hd k
theorem gf_X1_19 (S : CallFix p m c cc nL s args GT RX1) (hW : wX Z (ids g) A (cE Z A g μ) A0 s H locs) (hd : decode cc pc = .ok (.getfield 19, 3)) (k : W p l e R s m args below meth c H locs cells slots Q (F0 m (pc + 3) ls (.ref (A (0, 24)) :: rest))) : W p l e R s m args below meth c H locs cells slots Q (F0 m pc ls (.ref (A (0, 22)) :: rest)) :=
  r_get S hW (in_r (by decide) (by decide)) rfl rfl in_RX1 2 (by decide) g_240 rfl hd k
theorem gf_X1_22 (S : CallFix p m c cc nL s args GT RX1) (hW : wX Z (ids g) A (cE Z A g μ) A0 s H locs) (hd : decode cc pc = .ok (.getfield 22, 3)) (k : W p l e R s m args below meth c H locs cells slots Q (F0 m (pc + 3) ls (.ref (A (0, 25)) :: rest))) : W p l e R s m args below meth c H locs cells slots Q (F0 m pc ls (.ref (A (0, 22)) :: rest)) :=
  r_get S hW (in_r (by decide) (by decide)) rfl rfl in_RX1 3 (by decide) g_241 rfl hd k
theorem gf_X1_25 (S : CallFix p m c cc nL s args GT RX1) (hW : wX Z (ids g) A (cE Z A g μ) A0 s H locs) (hd : decode cc pc = .ok (.getfield 25, 3)) (k : W p l e R s m args below meth c H locs cells slots Q (F0 m (pc + 3) ls (.int (μ 0 22 4) :: rest))) : W p l e R s m args below meth c H locs cells slots Q (F0 m pc ls (.ref (A (0, 22)) :: rest)) :=
  r_get S hW (in_r (by decide) (by decide)) rfl rfl in_RX1 4 (by decide) g_242 rfl hd k
theorem gf_X1_28 (S : CallFix p m c cc nL s args GT RX1) (hW : wX Z (ids g) A (cE Z A g μ) A0 s H locs) (hd : decode cc pc = .ok (.getfield 28, 3)) (k : W p l e R s m args below meth c H locs cells slots Q (F0 m (pc + 3) ls (.int (μ 0 22 5) :: rest))) : W p l e R s m args below meth c H locs cells slots Q (F0 m pc ls (.ref (A (0, 22)) :: rest)) :=
  r_get S hW (in_r (by decide) (by decide)) rfl rfl in_RX1 5 (by decide) g_244 rfl hd k
theorem gf_X10_7 (S : CallFix p m c cc nL s args GT RX10) (hW : wX Z mds B (mE Z B ν) A0 s H locs) (hd : decode cc pc = .ok (.getfield 7, 3)) (k : W p l e R s m args below meth c H locs cells slots Q (F0 m (pc + 3) ls (.int (ν 0 2) :: rest))) : W p l e R s m args below meth c H locs cells slots Q (F0 m pc ls (.ref (B 0) :: rest)) :=
  r_get S hW (x := 0) (List.mem_range.mpr (by decide)) rfl rfl in_RX10 2 (by decide) g_1267 rfl hd k
theorem gf_X10_13 (S : CallFix p m c cc nL s args GT RX10) (hW : wX Z mds B (mE Z B ν) A0 s H locs) (hd : decode cc pc = .ok (.getfield 13, 3)) (k : W p l e R s m args below meth c H locs cells slots Q (F0 m (pc + 3) ls (.int (ν 0 3) :: rest))) : W p l e R s m args below meth c H locs cells slots Q (F0 m pc ls (.ref (B 0) :: rest)) :=
  r_get S hW (x := 0) (List.mem_range.mpr (by decide)) rfl rfl in_RX10 3 (by decide) g_1268 rfl hd k
theorem gf_X10_16 (S : CallFix p m c cc nL s args GT RX10) (hW : wX Z mds B (mE Z B ν) A0 s H locs) (hd : decode cc pc = .ok (.getfield 16, 3)) (k : W p l e R s m args below meth c H locs cells slots Q (F0 m (pc + 3) ls (.ref (B 1) :: rest))) : W p l e R s m args below meth c H locs cells slots Q (F0 m pc ls (.ref (B 0) :: rest)) :=
  r_get S hW (x := 0) (List.mem_range.mpr (by decide)) rfl rfl in_RX10 5 (by decide) g_1270 rfl hd k
theorem gf_X10_20 (S : CallFix p m c cc nL s args GT RX10) (hW : wX Z mds B (mE Z B ν) A0 s H locs) (hd : decode cc pc = .ok (.getfield 20, 3)) (k : W p l e R s m args below meth c H locs cells slots Q (F0 m (pc + 3) ls (.ref (B 2) :: rest))) : W p l e R s m args below meth c H locs cells slots Q (F0 m pc ls (.ref (B 0) :: rest)) :=
  r_get S hW (x := 0) (List.mem_range.mpr (by decide)) rfl rfl in_RX10 6 (by decide) g_1271 rfl hd k
theorem gf_X10_23 (S : CallFix p m c cc nL s args GT RX10) (hW : wX Z mds B (mE Z B ν) A0 s H locs) (hd : decode cc pc = .ok (.getfield 23, 3)) (k : W p l e R s m args below meth c H locs cells slots Q (F0 m (pc + 3) ls (.ref (B 3) :: rest))) : W p l e R s m args below meth c H locs cells slots Q (F0 m pc ls (.ref (B 0) :: rest)) :=
  r_get S hW (x := 0) (List.mem_range.mpr (by decide)) rfl rfl in_RX10 7 (by decide) g_1272 rfl hd k
theorem gf_X10_26 (S : CallFix p m c cc nL s args GT RX10) (hW : wX Z mds B (mE Z B ν) A0 s H locs) (hd : decode cc pc = .ok (.getfield 26, 3)) (k : W p l e R s m args below meth c H locs cells slots Q (F0 m (pc + 3) ls (.ref (B 4) :: rest))) : W p l e R s m args below meth c H locs cells slots Q (F0 m pc ls (.ref (B 0) :: rest)) :=
  r_get S hW (x := 0) (List.mem_range.mpr (by decide)) rfl rfl in_RX10 8 (by decide) g_1273 rfl hd k
theorem gf_X10_29 (S : CallFix p m c cc nL s args GT RX10) (hW : wX Z mds B (mE Z B ν) A0 s H locs) (hd : decode cc pc = .ok (.getfield 29, 3)) (k : W p l e R s m args below meth c H locs cells slots Q (F0 m (pc + 3) ls (.ref (B 5) :: rest))) : W p l e R s m args below meth c H locs cells slots Q (F0 m pc ls (.ref (B 0) :: rest)) :=
  r_get S hW (x := 0) (List.mem_range.mpr (by decide)) rfl rfl in_RX10 9 (by decide) g_1274 rfl hd k
theorem gf_X10_32 (S : CallFix p m c cc nL s args GT RX10) (hW : wX Z mds B (mE Z B ν) A0 s H locs) (hd : decode cc pc = .ok (.getfield 32, 3)) (k : W p l e R s m args below meth c H locs cells slots Q (F0 m (pc + 3) ls (.ref (B 6) :: rest))) : W p l e R s m args below meth c H locs cells slots Q (F0 m pc ls (.ref (B 0) :: rest)) :=
  r_get S hW (x := 0) (List.mem_range.mpr (by decide)) rfl rfl in_RX10 10 (by decide) g_1275 rfl hd k
theorem gf_X10_35 (S : CallFix p m c cc nL s args GT RX10) (hW : wX Z mds B (mE Z B ν) A0 s H locs) (hd : decode cc pc = .ok (.getfield 35, 3)) (k : W p l e R s m args below meth c H locs cells slots Q (F0 m (pc + 3) ls (.ref (B 7) :: rest))) : W p l e R s m args below meth c H locs cells slots Q (F0 m pc ls (.ref (B 0) :: rest)) :=
  r_get S hW (x := 0) (List.mem_range.mpr (by decide)) rfl rfl in_RX10 11 (by decide) g_1276 rfl hd k
theorem gf_X10_38 (S : CallFix p m c cc nL s args GT RX10) (hW : wX Z mds B (mE Z B ν) A0 s H locs) (hd : decode cc pc = .ok (.getfield 38, 3)) (k : W p l e R s m args below meth c H locs cells slots Q (F0 m (pc + 3) ls (.ref (B 8) :: rest))) : W p l e R s m args below meth c H locs cells slots Q (F0 m pc ls (.ref (B 0) :: rest)) :=
  r_get S hW (x := 0) (List.mem_range.mpr (by decide)) rfl rfl in_RX10 12 (by decide) g_1277 rfl hd k
theorem gf_X10_41 (S : CallFix p m c cc nL s args GT RX10) (hW : wX Z mds B (mE Z B ν) A0 s H locs) (hd : decode cc pc = .ok (.getfield 41, 3)) (k : W p l e R s m args below meth c H locs cells slots Q (F0 m (pc + 3) ls (.ref (B 9) :: rest))) : W p l e R s m args below meth c H locs cells slots Q (F0 m pc ls (.ref (B 0) :: rest)) :=
  r_get S hW (x := 0) (List.mem_range.mpr (by decide)) rfl rfl in_RX10 13 (by decide) g_1278 rfl hd k
theorem gf_X10_44 (S : CallFix p m c cc nL s args GT RX10) (hW : wX Z mds B (mE Z B ν) A0 s H locs) (hd : decode cc pc = .ok (.getfield 44, 3)) (k : W p l e R s m args below meth c H locs cells slots Q (F0 m (pc + 3) ls (.ref (B 10) :: rest))) : W p l e R s m args below meth c H locs cells slots Q (F0 m pc ls (.ref (B 0) :: rest)) :=
  r_get S hW (x := 0) (List.mem_range.mpr (by decide)) rfl rfl in_RX10 14 (by decide) g_1279 rfl hd k
theorem gf_X10_47 (S : CallFix p m c cc nL s args GT RX10) (hW : wX Z mds B (mE Z B ν) A0 s H locs) (hd : decode cc pc = .ok (.getfield 47, 3)) (k : W p l e R s m args below meth c H locs cells slots Q (F0 m (pc + 3) ls (.ref (B 11) :: rest))) : W p l e R s m args below meth c H locs cells slots Q (F0 m pc ls (.ref (B 0) :: rest)) :=
  r_get S hW (x := 0) (List.mem_range.mpr (by decide)) rfl rfl in_RX10 15 (by decide) g_1280 rfl hd k
theorem gf_X10_50 (S : CallFix p m c cc nL s args GT RX10) (hW : wX Z mds B (mE Z B ν) A0 s H locs) (hd : decode cc pc = .ok (.getfield 50, 3)) (k : W p l e R s m args below meth c H locs cells slots Q (F0 m (pc + 3) ls (.ref (B 12) :: rest))) : W p l e R s m args below meth c H locs cells slots Q (F0 m pc ls (.ref (B 0) :: rest)) :=
  r_get S hW (x := 0) (List.mem_range.mpr (by decide)) rfl rfl in_RX10 16 (by decide) g_1281 rfl hd k
theorem gf_X10_53 (S : CallFix p m c cc nL s args GT RX10) (hW : wX Z mds B (mE Z B ν) A0 s H locs) (hd : decode cc pc = .ok (.getfield 53, 3)) (k : W p l e R s m args below meth c H locs cells slots Q (F0 m (pc + 3) ls (.int (ν 0 0) :: rest))) : W p l e R s m args below meth c H locs cells slots Q (F0 m pc ls (.ref (B 0) :: rest)) :=
  r_get S hW (x := 0) (List.mem_range.mpr (by decide)) rfl rfl in_RX10 0 (by decide) g_1265 rfl hd k
theorem gf_X10_60 (S : CallFix p m c cc nL s args GT RX10) (hW : wX Z mds B (mE Z B ν) A0 s H locs) (hd : decode cc pc = .ok (.getfield 60, 3)) (k : W p l e R s m args below meth c H locs cells slots Q (F0 m (pc + 3) ls (.int (ν 0 1) :: rest))) : W p l e R s m args below meth c H locs cells slots Q (F0 m pc ls (.ref (B 0) :: rest)) :=
  r_get S hW (x := 0) (List.mem_range.mpr (by decide)) rfl rfl in_RX10 1 (by decide) g_1266 rfl hd k
theorem gf_X10_177 (S : CallFix p m c cc nL s args GT RX10) (hW : wX Z mds B (mE Z B ν) A0 s H locs) (hd : decode cc pc = .ok (.getfield 177, 3)) (k : W p l e R s m args below meth c H locs cells slots Q (F0 m (pc + 3) ls (.int (ν 0 17) :: rest))) : W p l e R s m args below meth c H locs cells slots Q (F0 m pc ls (.ref (B 0) :: rest)) :=
  r_get S hW (x := 0) (List.mem_range.mpr (by decide)) rfl rfl in_RX10 17 (by decide) g_1282 rfl hd k
theorem gf_X10_180 (S : CallFix p m c cc nL s args GT RX10) (hW : wX Z mds B (mE Z B ν) A0 s H locs) (hd : decode cc pc = .ok (.getfield 180, 3)) (k : W p l e R s m args below meth c H locs cells slots Q (F0 m (pc + 3) ls (.int (ν 0 18) :: rest))) : W p l e R s m args below meth c H locs cells slots Q (F0 m pc ls (.ref (B 0) :: rest)) :=
  r_get S hW (x := 0) (List.mem_range.mpr (by decide)) rfl rfl in_RX10 18 (by decide) g_1283 rfl hd k
theorem gf_X10_183 (S : CallFix p m c cc nL s args GT RX10) (hW : wX Z mds B (mE Z B ν) A0 s H locs) (hd : decode cc pc = .ok (.getfield 183, 3)) (k : W p l e R s m args below meth c H locs cells slots Q (F0 m (pc + 3) ls (.int (ν 0 19) :: rest))) : W p l e R s m args below meth c H locs cells slots Q (F0 m pc ls (.ref (B 0) :: rest)) :=
  r_get S hW (x := 0) (List.mem_range.mpr (by decide)) rfl rfl in_RX10 19 (by decide) g_1284 rfl hd k
theorem gf_X10_186 (S : CallFix p m c cc nL s args GT RX10) (hW : wX Z mds B (mE Z B ν) A0 s H locs) (hd : decode cc pc = .ok (.getfield 186, 3)) (k : W p l e R s m args below meth c H locs cells slots Q (F0 m (pc + 3) ls (.int (ν 0 21) :: rest))) : W p l e R s m args below meth c H locs cells slots Q (F0 m pc ls (.ref (B 0) :: rest)) :=
  r_get S hW (x := 0) (List.mem_range.mpr (by decide)) rfl rfl in_RX10 21 (by decide) g_1286 rfl hd k
theorem gf_X10_206 (S : CallFix p m c cc nL s args GT RX10) (hW : wX Z mds B (mE Z B ν) A0 s H locs) (hd : decode cc pc = .ok (.getfield 206, 3)) (k : W p l e R s m args below meth c H locs cells slots Q (F0 m (pc + 3) ls (.int (ν 0 22) :: rest))) : W p l e R s m args below meth c H locs cells slots Q (F0 m pc ls (.ref (B 0) :: rest)) :=
  r_get S hW (x := 0) (List.mem_range.mpr (by decide)) rfl rfl in_RX10 22 (by decide) g_1287 rfl hd k
theorem gf_X10_219 (S : CallFix p m c cc nL s args GT RX10) (hW : wX Z mds B (mE Z B ν) A0 s H locs) (hd : decode cc pc = .ok (.getfield 219, 3)) (k : W p l e R s m args below meth c H locs cells slots Q (F0 m (pc + 3) ls (.int (ν 0 20) :: rest))) : W p l e R s m args below meth c H locs cells slots Q (F0 m pc ls (.ref (B 0) :: rest)) :=
  r_get S hW (x := 0) (List.mem_range.mpr (by decide)) rfl rfl in_RX10 20 (by decide) g_1285 rfl hd k
theorem gf_X10_228 (S : CallFix p m c cc nL s args GT RX10) (hW : wX Z mds B (mE Z B ν) A0 s H locs) (hd : decode cc pc = .ok (.getfield 228, 3)) (k : W p l e R s m args below meth c H locs cells slots Q (F0 m (pc + 3) ls (.int (ν 0 4) :: rest))) : W p l e R s m args below meth c H locs cells slots Q (F0 m pc ls (.ref (B 0) :: rest)) :=
  r_get S hW (x := 0) (List.mem_range.mpr (by decide)) rfl rfl in_RX10 4 (by decide) g_1269 rfl hd k
theorem gf_X2_11 (S : CallFix p m c cc nL s args GT RX2) (hW : wX Z (ids g) A (cE Z A g μ) A0 s H locs) (hd : decode cc pc = .ok (.getfield 11, 3)) (k : W p l e R s m args below meth c H locs cells slots Q (F0 m (pc + 3) ls (.ref (A (0, 16)) :: rest))) : W p l e R s m args below meth c H locs cells slots Q (F0 m pc ls (.ref (A (0, 15)) :: rest)) :=
  r_get S hW (in_r (by decide) (by decide)) rfl rfl in_RX2 0 (by decide) g_203 rfl hd k
theorem gf_X2_17 (S : CallFix p m c cc nL s args GT RX2) (hW : wX Z (ids g) A (cE Z A g μ) A0 s H locs) (hd : decode cc pc = .ok (.getfield 17, 3)) (k : W p l e R s m args below meth c H locs cells slots Q (F0 m (pc + 3) ls (.int (μ 0 15 1) :: rest))) : W p l e R s m args below meth c H locs cells slots Q (F0 m pc ls (.ref (A (0, 15)) :: rest)) :=
  r_get S hW (in_r (by decide) (by decide)) rfl rfl in_RX2 1 (by decide) g_204 rfl hd k
theorem gf_X2_21 (S : CallFix p m c cc nL s args GT RX2) (hW : wX Z (ids g) A (cE Z A g μ) A0 s H locs) (hd : decode cc pc = .ok (.getfield 21, 3)) (k : W p l e R s m args below meth c H locs cells slots Q (F0 m (pc + 3) ls (.int (μ 0 15 2) :: rest))) : W p l e R s m args below meth c H locs cells slots Q (F0 m pc ls (.ref (A (0, 15)) :: rest)) :=
  r_get S hW (in_r (by decide) (by decide)) rfl rfl in_RX2 2 (by decide) g_205 rfl hd k
theorem gf_X3_9 (S : CallFix p m c cc nL s args GT RX3) (hW : wX Z (ids g) A (cE Z A g μ) A0 s H locs) (hd : decode cc pc = .ok (.getfield 9, 3)) (k : W p l e R s m args below meth c H locs cells slots Q (F0 m (pc + 3) ls (.ref (A (0, 27)) :: rest))) : W p l e R s m args below meth c H locs cells slots Q (F0 m pc ls (.ref (A (0, 26)) :: rest)) :=
  r_get S hW (in_r (by decide) (by decide)) rfl rfl in_RX3 0 (by decide) g_265 rfl hd k
theorem gf_X3_15 (S : CallFix p m c cc nL s args GT RX3) (hW : wX Z (ids g) A (cE Z A g μ) A0 s H locs) (hd : decode cc pc = .ok (.getfield 15, 3)) (k : W p l e R s m args below meth c H locs cells slots Q (F0 m (pc + 3) ls (.int (μ 0 26 1) :: rest))) : W p l e R s m args below meth c H locs cells slots Q (F0 m pc ls (.ref (A (0, 26)) :: rest)) :=
  r_get S hW (in_r (by decide) (by decide)) rfl rfl in_RX3 1 (by decide) g_266 rfl hd k
theorem gf_X4_9 (S : CallFix p m c cc nL s args GT RX4) (hW : wX Z (ids g) A (cE Z A g μ) A0 s H locs) (hd : decode cc pc = .ok (.getfield 9, 3)) (k : W p l e R s m args below meth c H locs cells slots Q (F0 m (pc + 3) ls (.ref (A (0, 18)) :: rest))) : W p l e R s m args below meth c H locs cells slots Q (F0 m pc ls (.ref (A (0, 17)) :: rest)) :=
  r_get S hW (in_r (by decide) (by decide)) rfl rfl in_RX4 0 (by decide) g_220 rfl hd k
theorem gf_X4_15 (S : CallFix p m c cc nL s args GT RX4) (hW : wX Z (ids g) A (cE Z A g μ) A0 s H locs) (hd : decode cc pc = .ok (.getfield 15, 3)) (k : W p l e R s m args below meth c H locs cells slots Q (F0 m (pc + 3) ls (.ref (A (0, 19)) :: rest))) : W p l e R s m args below meth c H locs cells slots Q (F0 m pc ls (.ref (A (0, 17)) :: rest)) :=
  r_get S hW (in_r (by decide) (by decide)) rfl rfl in_RX4 1 (by decide) g_221 rfl hd k
theorem gf_X4_18 (S : CallFix p m c cc nL s args GT RX4) (hW : wX Z (ids g) A (cE Z A g μ) A0 s H locs) (hd : decode cc pc = .ok (.getfield 18, 3)) (k : W p l e R s m args below meth c H locs cells slots Q (F0 m (pc + 3) ls (.ref (A (0, 20)) :: rest))) : W p l e R s m args below meth c H locs cells slots Q (F0 m pc ls (.ref (A (0, 17)) :: rest)) :=
  r_get S hW (in_r (by decide) (by decide)) rfl rfl in_RX4 2 (by decide) g_222 rfl hd k
theorem gf_X4_31 (S : CallFix p m c cc nL s args GT RX4) (hW : wX Z (ids g) A (cE Z A g μ) A0 s H locs) {b : Nat} (hb : sB g b) (hd : decode cc pc = .ok (.getfield 31, 3)) (k : W p l e R s m args below meth c H locs cells slots Q (F0 m (pc + 3) ls (.ref (A (b, 4)) :: rest))) : W p l e R s m args below meth c H locs cells slots Q (F0 m pc ls (.ref (A (b, 0)) :: rest)) :=
  r_get S hW (in_s hb (by decide)) rfl rfl in_RX6 1 (by decide) g_184 rfl hd k
theorem gf_X4_43 (S : CallFix p m c cc nL s args GT RX4) (hW : wX Z (ids g) A (cE Z A g μ) A0 s H locs) {b : Nat} (hb : sB g b) (hd : decode cc pc = .ok (.getfield 43, 3)) (k : W p l e R s m args below meth c H locs cells slots Q (F0 m (pc + 3) ls (.ref (A (b, 1)) :: rest))) : W p l e R s m args below meth c H locs cells slots Q (F0 m pc ls (.ref (A (b, 0)) :: rest)) :=
  r_get S hW (in_s hb (by decide)) rfl rfl in_RX6 0 (by decide) g_182 rfl hd k
theorem gf_X4_47 (S : CallFix p m c cc nL s args GT RX4) (hW : wX Z (ids g) A (cE Z A g μ) A0 s H locs) {b : Nat} (hb : sB g b) (hd : decode cc pc = .ok (.getfield 47, 3)) (k : W p l e R s m args below meth c H locs cells slots Q (F0 m (pc + 3) ls (.int (μ b 1 2) :: rest))) : W p l e R s m args below meth c H locs cells slots Q (F0 m pc ls (.ref (A (b, 1)) :: rest)) :=
  r_get S hW (in_s hb (by decide)) rfl rfl in_RX0 2 (by decide) g_117 rfl hd k
theorem gf_X5_9 (S : CallFix p m c cc nL s args GT RX5) (hW : wX Z (ids g) A (cE Z A g μ) A0 s H locs) {b : Nat} (hb : sB g b) (hd : decode cc pc = .ok (.getfield 9, 3)) (k : W p l e R s m args below meth c H locs cells slots Q (F0 m (pc + 3) ls (.ref (A (b, 5)) :: rest))) : W p l e R s m args below meth c H locs cells slots Q (F0 m pc ls (.ref (A (b, 4)) :: rest)) :=
  r_get S hW (in_s hb (by decide)) rfl rfl in_RX5 0 (by decide) g_132 rfl hd k
theorem gf_X5_15 (S : CallFix p m c cc nL s args GT RX5) (hW : wX Z (ids g) A (cE Z A g μ) A0 s H locs) {b : Nat} (hb : sB g b) (hd : decode cc pc = .ok (.getfield 15, 3)) (k : W p l e R s m args below meth c H locs cells slots Q (F0 m (pc + 3) ls (.ref (A (b, 6)) :: rest))) : W p l e R s m args below meth c H locs cells slots Q (F0 m pc ls (.ref (A (b, 4)) :: rest)) :=
  r_get S hW (in_s hb (by decide)) rfl rfl in_RX5 1 (by decide) g_133 rfl hd k
theorem gf_X5_18 (S : CallFix p m c cc nL s args GT RX5) (hW : wX Z (ids g) A (cE Z A g μ) A0 s H locs) {b : Nat} (hb : sB g b) (hd : decode cc pc = .ok (.getfield 18, 3)) (k : W p l e R s m args below meth c H locs cells slots Q (F0 m (pc + 3) ls (.ref (A (b, 7)) :: rest))) : W p l e R s m args below meth c H locs cells slots Q (F0 m pc ls (.ref (A (b, 4)) :: rest)) :=
  r_get S hW (in_s hb (by decide)) rfl rfl in_RX5 2 (by decide) g_134 rfl hd k
theorem gf_X5_21 (S : CallFix p m c cc nL s args GT RX5) (hW : wX Z (ids g) A (cE Z A g μ) A0 s H locs) {b : Nat} (hb : sB g b) (hd : decode cc pc = .ok (.getfield 21, 3)) (k : W p l e R s m args below meth c H locs cells slots Q (F0 m (pc + 3) ls (.ref (A (b, 8)) :: rest))) : W p l e R s m args below meth c H locs cells slots Q (F0 m pc ls (.ref (A (b, 4)) :: rest)) :=
  r_get S hW (in_s hb (by decide)) rfl rfl in_RX5 3 (by decide) g_135 rfl hd k
theorem gf_X6_10 (S : CallFix p m c cc nL s args GT RX6) (hW : wX Z (ids g) A (cE Z A g μ) A0 s H locs) {b : Nat} (hb : sB g b) (hd : decode cc pc = .ok (.getfield 10, 3)) (k : W p l e R s m args below meth c H locs cells slots Q (F0 m (pc + 3) ls (.ref (A (b, 1)) :: rest))) : W p l e R s m args below meth c H locs cells slots Q (F0 m pc ls (.ref (A (b, 0)) :: rest)) :=
  r_get S hW (in_s hb (by decide)) rfl rfl in_RX6 0 (by decide) g_180 rfl hd k
theorem gf_X6_19 (S : CallFix p m c cc nL s args GT RX6) (hW : wX Z (ids g) A (cE Z A g μ) A0 s H locs) {b : Nat} (hb : sB g b) (hd : decode cc pc = .ok (.getfield 19, 3)) (k : W p l e R s m args below meth c H locs cells slots Q (F0 m (pc + 3) ls (.ref (A (b, 4)) :: rest))) : W p l e R s m args below meth c H locs cells slots Q (F0 m pc ls (.ref (A (b, 0)) :: rest)) :=
  r_get S hW (in_s hb (by decide)) rfl rfl in_RX6 1 (by decide) g_183 rfl hd k
theorem gf_X6_26 (S : CallFix p m c cc nL s args GT RX6) (hW : wX Z (ids g) A (cE Z A g μ) A0 s H locs) {b : Nat} (hb : sB g b) (hd : decode cc pc = .ok (.getfield 26, 3)) (k : W p l e R s m args below meth c H locs cells slots Q (F0 m (pc + 3) ls (.ref (A (b, 9)) :: rest))) : W p l e R s m args below meth c H locs cells slots Q (F0 m pc ls (.ref (A (b, 0)) :: rest)) :=
  r_get S hW (in_s hb (by decide)) rfl rfl in_RX6 2 (by decide) g_186 rfl hd k
theorem gf_X7_9 (S : CallFix p m c cc nL s args GT RX7) (hW : wX Z (ids g) A (cE Z A g μ) A0 s H locs) {b : Nat} (hb : tB g b) (hd : decode cc pc = .ok (.getfield 9, 3)) (k : W p l e R s m args below meth c H locs cells slots Q (F0 m (pc + 3) ls (.ref (A (b, 10)) :: rest))) : W p l e R s m args below meth c H locs cells slots Q (F0 m pc ls (.ref (A (b, 9)) :: rest)) :=
  r_get S hW (in_t hb (by decide) (by decide)) rfl rfl in_RX7 0 (by decide) g_151 rfl hd k
theorem gf_X7_15 (S : CallFix p m c cc nL s args GT RX7) (hW : wX Z (ids g) A (cE Z A g μ) A0 s H locs) {b : Nat} (hb : tB g b) (hd : decode cc pc = .ok (.getfield 15, 3)) (k : W p l e R s m args below meth c H locs cells slots Q (F0 m (pc + 3) ls (.ref (A (b, 11)) :: rest))) : W p l e R s m args below meth c H locs cells slots Q (F0 m pc ls (.ref (A (b, 9)) :: rest)) :=
  r_get S hW (in_t hb (by decide) (by decide)) rfl rfl in_RX7 1 (by decide) g_152 rfl hd k
theorem gf_X7_18 (S : CallFix p m c cc nL s args GT RX7) (hW : wX Z (ids g) A (cE Z A g μ) A0 s H locs) {b : Nat} (hb : tB g b) (hd : decode cc pc = .ok (.getfield 18, 3)) (k : W p l e R s m args below meth c H locs cells slots Q (F0 m (pc + 3) ls (.ref (A (b, 12)) :: rest))) : W p l e R s m args below meth c H locs cells slots Q (F0 m pc ls (.ref (A (b, 9)) :: rest)) :=
  r_get S hW (in_t hb (by decide) (by decide)) rfl rfl in_RX7 2 (by decide) g_153 rfl hd k
theorem gf_X7_21 (S : CallFix p m c cc nL s args GT RX7) (hW : wX Z (ids g) A (cE Z A g μ) A0 s H locs) {b : Nat} (hb : tB g b) (hd : decode cc pc = .ok (.getfield 21, 3)) (k : W p l e R s m args below meth c H locs cells slots Q (F0 m (pc + 3) ls (.ref (A (b, 13)) :: rest))) : W p l e R s m args below meth c H locs cells slots Q (F0 m pc ls (.ref (A (b, 9)) :: rest)) :=
  r_get S hW (in_t hb (by decide) (by decide)) rfl rfl in_RX7 3 (by decide) g_154 rfl hd k
theorem gf_X7_24 (S : CallFix p m c cc nL s args GT RX7) (hW : wX Z (ids g) A (cE Z A g μ) A0 s H locs) {b : Nat} (hb : tB g b) (hd : decode cc pc = .ok (.getfield 24, 3)) (k : W p l e R s m args below meth c H locs cells slots Q (F0 m (pc + 3) ls (.int (μ b 9 4) :: rest))) : W p l e R s m args below meth c H locs cells slots Q (F0 m pc ls (.ref (A (b, 9)) :: rest)) :=
  r_get S hW (in_t hb (by decide) (by decide)) rfl rfl in_RX7 4 (by decide) g_155 rfl hd k
theorem gf_X7_28 (S : CallFix p m c cc nL s args GT RX7) (hW : wX Z (ids g) A (cE Z A g μ) A0 s H locs) {b : Nat} (hb : tB g b) (hd : decode cc pc = .ok (.getfield 28, 3)) (k : W p l e R s m args below meth c H locs cells slots Q (F0 m (pc + 3) ls (.int (μ b 9 5) :: rest))) : W p l e R s m args below meth c H locs cells slots Q (F0 m pc ls (.ref (A (b, 9)) :: rest)) :=
  r_get S hW (in_t hb (by decide) (by decide)) rfl rfl in_RX7 5 (by decide) g_157 rfl hd k
theorem gf_X7_31 (S : CallFix p m c cc nL s args GT RX7) (hW : wX Z (ids g) A (cE Z A g μ) A0 s H locs) {b : Nat} (hb : tB g b) (hd : decode cc pc = .ok (.getfield 31, 3)) (k : W p l e R s m args below meth c H locs cells slots Q (F0 m (pc + 3) ls (.int (μ b 9 6) :: rest))) : W p l e R s m args below meth c H locs cells slots Q (F0 m pc ls (.ref (A (b, 9)) :: rest)) :=
  r_get S hW (in_t hb (by decide) (by decide)) rfl rfl in_RX7 6 (by decide) g_159 rfl hd k
theorem gf_X7_34 (S : CallFix p m c cc nL s args GT RX7) (hW : wX Z (ids g) A (cE Z A g μ) A0 s H locs) {b : Nat} (hb : tB g b) (hd : decode cc pc = .ok (.getfield 34, 3)) (k : W p l e R s m args below meth c H locs cells slots Q (F0 m (pc + 3) ls (.int (μ b 9 7) :: rest))) : W p l e R s m args below meth c H locs cells slots Q (F0 m pc ls (.ref (A (b, 9)) :: rest)) :=
  r_get S hW (in_t hb (by decide) (by decide)) rfl rfl in_RX7 7 (by decide) g_161 rfl hd k
theorem gf_X9_10 (S : CallFix p m c cc nL s args GT RX9) (hW : wX Z (ids g) A (cE Z A g μ) A0 s H locs) (hd : decode cc pc = .ok (.getfield 10, 3)) (k : W p l e R s m args below meth c H locs cells slots Q (F0 m (pc + 3) ls (.ref (A (0, 0)) :: rest))) : W p l e R s m args below meth c H locs cells slots Q (F0 m pc ls (.ref (A (0, 14)) :: rest)) :=
  r_get S hW (in_r (by decide) (by decide)) rfl rfl in_RX9 0 (by decide) g_273 rfl hd k
theorem gf_X9_16 (S : CallFix p m c cc nL s args GT RX9) (hW : wX Z (ids g) A (cE Z A g μ) A0 s H locs) (hd : decode cc pc = .ok (.getfield 16, 3)) (k : W p l e R s m args below meth c H locs cells slots Q (F0 m (pc + 3) ls (.ref (A (1, 0)) :: rest))) : W p l e R s m args below meth c H locs cells slots Q (F0 m pc ls (.ref (A (0, 14)) :: rest)) :=
  r_get S hW (in_r (by decide) (by decide)) rfl rfl in_RX9 1 (by decide) g_274 rfl hd k
theorem gf_X9_19 (S : CallFix p m c cc nL s args GT RX9) (hW : wX Z (ids g) A (cE Z A g μ) A0 s H locs) (hd : decode cc pc = .ok (.getfield 19, 3)) (k : W p l e R s m args below meth c H locs cells slots Q (F0 m (pc + 3) ls (.ref (A (2, 0)) :: rest))) : W p l e R s m args below meth c H locs cells slots Q (F0 m pc ls (.ref (A (0, 14)) :: rest)) :=
  r_get S hW (in_r (by decide) (by decide)) rfl rfl in_RX9 2 (by decide) g_275 rfl hd k
theorem gf_X9_25 (S : CallFix p m c cc nL s args GT RX9) (hW : wX Z (ids g) A (cE Z A g μ) A0 s H locs) (hd : decode cc pc = .ok (.getfield 25, 3)) (k : W p l e R s m args below meth c H locs cells slots Q (F0 m (pc + 3) ls (.ref (A (0, 15)) :: rest))) : W p l e R s m args below meth c H locs cells slots Q (F0 m pc ls (.ref (A (0, 14)) :: rest)) :=
  r_get S hW (in_r (by decide) (by decide)) rfl rfl in_RX9 3 (by decide) g_276 rfl hd k
theorem gf_X9_32 (S : CallFix p m c cc nL s args GT RX9) (hW : wX Z (ids g) A (cE Z A g μ) A0 s H locs) (hd : decode cc pc = .ok (.getfield 32, 3)) (k : W p l e R s m args below meth c H locs cells slots Q (F0 m (pc + 3) ls (.ref (A (0, 17)) :: rest))) : W p l e R s m args below meth c H locs cells slots Q (F0 m pc ls (.ref (A (0, 14)) :: rest)) :=
  r_get S hW (in_r (by decide) (by decide)) rfl rfl in_RX9 4 (by decide) g_277 rfl hd k
theorem gf_X9_39 (S : CallFix p m c cc nL s args GT RX9) (hW : wX Z (ids g) A (cE Z A g μ) A0 s H locs) (hd : decode cc pc = .ok (.getfield 39, 3)) (k : W p l e R s m args below meth c H locs cells slots Q (F0 m (pc + 3) ls (.ref (A (11, 9)) :: rest))) : W p l e R s m args below meth c H locs cells slots Q (F0 m pc ls (.ref (A (0, 14)) :: rest)) :=
  r_get S hW (in_r (by decide) (by decide)) rfl rfl in_RX9 5 (by decide) g_278 rfl hd k
theorem gf_X9_43 (S : CallFix p m c cc nL s args GT RX9) (hW : wX Z (ids g) A (cE Z A g μ) A0 s H locs) (hd : decode cc pc = .ok (.getfield 43, 3)) (k : W p l e R s m args below meth c H locs cells slots Q (F0 m (pc + 3) ls (.ref (A (0, 21)) :: rest))) : W p l e R s m args below meth c H locs cells slots Q (F0 m pc ls (.ref (A (0, 14)) :: rest)) :=
  r_get S hW (in_r (by decide) (by decide)) rfl rfl in_RX9 6 (by decide) g_279 rfl hd k
theorem gf_X9_50 (S : CallFix p m c cc nL s args GT RX9) (hW : wX Z (ids g) A (cE Z A g μ) A0 s H locs) (hd : decode cc pc = .ok (.getfield 50, 3)) (k : W p l e R s m args below meth c H locs cells slots Q (F0 m (pc + 3) ls (.ref (A (0, 22)) :: rest))) : W p l e R s m args below meth c H locs cells slots Q (F0 m pc ls (.ref (A (0, 14)) :: rest)) :=
  r_get S hW (in_r (by decide) (by decide)) rfl rfl in_RX9 7 (by decide) g_280 rfl hd k
theorem gf_X9_57 (S : CallFix p m c cc nL s args GT RX9) (hW : wX Z (ids g) A (cE Z A g μ) A0 s H locs) (hd : decode cc pc = .ok (.getfield 57, 3)) (k : W p l e R s m args below meth c H locs cells slots Q (F0 m (pc + 3) ls (.ref (A (0, 26)) :: rest))) : W p l e R s m args below meth c H locs cells slots Q (F0 m pc ls (.ref (A (0, 14)) :: rest)) :=
  r_get S hW (in_r (by decide) (by decide)) rfl rfl in_RX9 8 (by decide) g_281 rfl hd k
theorem gf_X9_61 (S : CallFix p m c cc nL s args GT RX9) (hW : wX Z (ids g) A (cE Z A g μ) A0 s H locs) (hd : decode cc pc = .ok (.getfield 61, 3)) (k : W p l e R s m args below meth c H locs cells slots Q (F0 m (pc + 3) ls (.int (μ 0 14 9) :: rest))) : W p l e R s m args below meth c H locs cells slots Q (F0 m pc ls (.ref (A (0, 14)) :: rest)) :=
  r_get S hW (in_r (by decide) (by decide)) rfl rfl in_RX9 9 (by decide) g_282 rfl hd k
theorem gf_X9_65 (S : CallFix p m c cc nL s args GT RX9) (hW : wX Z (ids g) A (cE Z A g μ) A0 s H locs) (hd : decode cc pc = .ok (.getfield 65, 3)) (k : W p l e R s m args below meth c H locs cells slots Q (F0 m (pc + 3) ls (.int (μ 0 14 10) :: rest))) : W p l e R s m args below meth c H locs cells slots Q (F0 m pc ls (.ref (A (0, 14)) :: rest)) :=
  r_get S hW (in_r (by decide) (by decide)) rfl rfl in_RX9 10 (by decide) g_283 rfl hd k
theorem gf_X9_69 (S : CallFix p m c cc nL s args GT RX9) (hW : wX Z (ids g) A (cE Z A g μ) A0 s H locs) (hd : decode cc pc = .ok (.getfield 69, 3)) (k : W p l e R s m args below meth c H locs cells slots Q (F0 m (pc + 3) ls (.int (μ 0 14 11) :: rest))) : W p l e R s m args below meth c H locs cells slots Q (F0 m pc ls (.ref (A (0, 14)) :: rest)) :=
  r_get S hW (in_r (by decide) (by decide)) rfl rfl in_RX9 11 (by decide) g_284 rfl hd k
theorem gf_X9_72 (S : CallFix p m c cc nL s args GT RX9) (hW : wX Z (ids g) A (cE Z A g μ) A0 s H locs) {b : Nat} (hb : sB g b) (hd : decode cc pc = .ok (.getfield 72, 3)) (k : W p l e R s m args below meth c H locs cells slots Q (F0 m (pc + 3) ls (.ref (A (b, 1)) :: rest))) : W p l e R s m args below meth c H locs cells slots Q (F0 m pc ls (.ref (A (b, 0)) :: rest)) :=
  r_get S hW (in_s hb (by decide)) rfl rfl in_RX6 0 (by decide) g_181 rfl hd k
theorem gf_X9_90 (S : CallFix p m c cc nL s args GT RX9) (hW : wX Z (ids g) A (cE Z A g μ) A0 s H locs) {b : Nat} (hb : sB g b) (hd : decode cc pc = .ok (.getfield 90, 3)) (k : W p l e R s m args below meth c H locs cells slots Q (F0 m (pc + 3) ls (.int (μ b 1 2) :: rest))) : W p l e R s m args below meth c H locs cells slots Q (F0 m pc ls (.ref (A (b, 1)) :: rest)) :=
  r_get S hW (in_s hb (by decide)) rfl rfl in_RX0 2 (by decide) g_116 rfl hd k
theorem gf_X9_122 (S : CallFix p m c cc nL s args GT RX9) (hW : wX Z (ids g) A (cE Z A g μ) A0 s H locs) {b : Nat} (hb : sB g b) (hd : decode cc pc = .ok (.getfield 122, 3)) (k : W p l e R s m args below meth c H locs cells slots Q (F0 m (pc + 3) ls (.ref (A (b, 4)) :: rest))) : W p l e R s m args below meth c H locs cells slots Q (F0 m pc ls (.ref (A (b, 0)) :: rest)) :=
  r_get S hW (in_s hb (by decide)) rfl rfl in_RX6 1 (by decide) g_185 rfl hd k
theorem gf_X9_193 (S : CallFix p m c cc nL s args GT RX9) (hW : wX Z (ids g) A (cE Z A g μ) A0 s H locs) {b : Nat} (hb : sB g b) (hd : decode cc pc = .ok (.getfield 193, 3)) (k : W p l e R s m args below meth c H locs cells slots Q (F0 m (pc + 3) ls (.ref (A (b, 9)) :: rest))) : W p l e R s m args below meth c H locs cells slots Q (F0 m pc ls (.ref (A (b, 0)) :: rest)) :=
  r_get S hW (in_s hb (by decide)) rfl rfl in_RX6 2 (by decide) g_187 rfl hd k
theorem gf_X9_218 (S : CallFix p m c cc nL s args GT RX9) (hW : wX Z (ids g) A (cE Z A g μ) A0 s H locs) {b : Nat} (hb : tB g b) (hd : decode cc pc = .ok (.getfield 218, 3)) (k : W p l e R s m args below meth c H locs cells slots Q (F0 m (pc + 3) ls (.int (μ b 9 4) :: rest))) : W p l e R s m args below meth c H locs cells slots Q (F0 m pc ls (.ref (A (b, 9)) :: rest)) :=
  r_get S hW (in_t hb (by decide) (by decide)) rfl rfl in_RX7 4 (by decide) g_156 rfl hd k
theorem gf_X9_251 (S : CallFix p m c cc nL s args GT RX9) (hW : wX Z (ids g) A (cE Z A g μ) A0 s H locs) {b : Nat} (hb : tB g b) (hd : decode cc pc = .ok (.getfield 251, 3)) (k : W p l e R s m args below meth c H locs cells slots Q (F0 m (pc + 3) ls (.int (μ b 9 5) :: rest))) : W p l e R s m args below meth c H locs cells slots Q (F0 m pc ls (.ref (A (b, 9)) :: rest)) :=
  r_get S hW (in_t hb (by decide) (by decide)) rfl rfl in_RX7 5 (by decide) g_158 rfl hd k
theorem gf_X9_254 (S : CallFix p m c cc nL s args GT RX9) (hW : wX Z (ids g) A (cE Z A g μ) A0 s H locs) {b : Nat} (hb : tB g b) (hd : decode cc pc = .ok (.getfield 254, 3)) (k : W p l e R s m args below meth c H locs cells slots Q (F0 m (pc + 3) ls (.int (μ b 9 6) :: rest))) : W p l e R s m args below meth c H locs cells slots Q (F0 m pc ls (.ref (A (b, 9)) :: rest)) :=
  r_get S hW (in_t hb (by decide) (by decide)) rfl rfl in_RX7 6 (by decide) g_160 rfl hd k
theorem gf_X9_257 (S : CallFix p m c cc nL s args GT RX9) (hW : wX Z (ids g) A (cE Z A g μ) A0 s H locs) {b : Nat} (hb : tB g b) (hd : decode cc pc = .ok (.getfield 257, 3)) (k : W p l e R s m args below meth c H locs cells slots Q (F0 m (pc + 3) ls (.int (μ b 9 7) :: rest))) : W p l e R s m args below meth c H locs cells slots Q (F0 m pc ls (.ref (A (b, 9)) :: rest)) :=
  r_get S hW (in_t hb (by decide) (by decide)) rfl rfl in_RX7 7 (by decide) g_162 rfl hd k
theorem gf_X9_274 (S : CallFix p m c cc nL s args GT RX9) (hW : wX Z (ids g) A (cE Z A g μ) A0 s H locs) (hd : decode cc pc = .ok (.getfield 274, 3)) (k : W p l e R s m args below meth c H locs cells slots Q (F0 m (pc + 3) ls (.int (μ 0 22 5) :: rest))) : W p l e R s m args below meth c H locs cells slots Q (F0 m pc ls (.ref (A (0, 22)) :: rest)) :=
  r_get S hW (in_r (by decide) (by decide)) rfl rfl in_RX1 5 (by decide) g_245 rfl hd k
theorem gf_X9_285 (S : CallFix p m c cc nL s args GT RX9) (hW : wX Z (ids g) A (cE Z A g μ) A0 s H locs) (hd : decode cc pc = .ok (.getfield 285, 3)) (k : W p l e R s m args below meth c H locs cells slots Q (F0 m (pc + 3) ls (.int (μ 0 22 4) :: rest))) : W p l e R s m args below meth c H locs cells slots Q (F0 m pc ls (.ref (A (0, 22)) :: rest)) :=
  r_get S hW (in_r (by decide) (by decide)) rfl rfl in_RX1 4 (by decide) g_243 rfl hd k
theorem gf_X9_311 (S : CallFix p m c cc nL s args GT RX9) (hW : wX Z (ids g) A (cE Z A g μ) A0 s H locs) (hd : decode cc pc = .ok (.getfield 311, 3)) (k : W p l e R s m args below meth c H locs cells slots Q (F0 m (pc + 3) ls (.int (μ 0 26 1) :: rest))) : W p l e R s m args below meth c H locs cells slots Q (F0 m pc ls (.ref (A (0, 26)) :: rest)) :=
  r_get S hW (in_r (by decide) (by decide)) rfl rfl in_RX3 1 (by decide) g_267 rfl hd k
theorem gf_X9_340 (S : CallFix p m c cc nL s args GT RX9) (hW : wX Z (ids g) A (cE Z A g μ) A0 s H locs) (hd : decode cc pc = .ok (.getfield 340, 3)) (k : W p l e R s m args below meth c H locs cells slots Q (F0 m (pc + 3) ls (.int (μ 0 15 2) :: rest))) : W p l e R s m args below meth c H locs cells slots Q (F0 m pc ls (.ref (A (0, 15)) :: rest)) :=
  r_get S hW (in_r (by decide) (by decide)) rfl rfl in_RX2 2 (by decide) g_206 rfl hd k
theorem gp_X0_18 (S : CallFix p m c cc nL s args GT RX0) (hW : wX Z (ids g) A (cE Z A g μ) A0 s H locs) {b : Nat} (hb : sB g b) {v : Int32} (hd : decode cc pc = .ok (.putfield 18, 3)) (k : ∀ (H1 : Heap) (locs1 : List Loc), wX Z (ids g) A (cE Z A g (up2 μ b 1 (upd (μ b 1) 2 v))) A0 s H1 locs1 → W p l e R s m args below meth c H1 locs1 cells slots Q (F0 m (pc + 3) ls rest)) : W p l e R s m args below meth c H locs cells slots Q (F0 m pc ls (.int v :: .ref (A (b, 1)) :: rest)) :=
  r_put S hW (in_s hb (by decide)) rfl rfl in_RX0 tyX0 tyX0_ok nmX0 2 (by decide) g_115 rfl (ty := .int) (by decide +kernel) rfl rfl (Nat.le_of_ble_eq_true rfl) (by simp [cE, cEo, up2, upd]) (fun y hy => cE_up y hy) hd k
theorem gp_X1_15 (S : CallFix p m c cc nL s args GT RX1) (hW : wX Z (ids g) A (cE Z A g μ) A0 s H locs) {v : Int32} (hd : decode cc pc = .ok (.putfield 15, 3)) (k : ∀ (H1 : Heap) (locs1 : List Loc), wX Z (ids g) A (cE Z A g (up2 μ 0 22 (upd (μ 0 22) 1 v))) A0 s H1 locs1 → W p l e R s m args below meth c H1 locs1 cells slots Q (F0 m (pc + 3) ls rest)) : W p l e R s m args below meth c H locs cells slots Q (F0 m pc ls (.int v :: .ref (A (0, 22)) :: rest)) :=
  r_put S hW (in_r (by decide) (by decide)) rfl rfl in_RX1 tyX1 tyX1_ok nmX1 1 (by decide) g_239 rfl (ty := .int) (by decide +kernel) rfl rfl (Nat.le_of_ble_eq_true rfl) (by simp [cE, cEo, up2, upd]) (fun y hy => cE_up y hy) hd k
theorem gp_X1_25 (S : CallFix p m c cc nL s args GT RX1) (hW : wX Z (ids g) A (cE Z A g μ) A0 s H locs) {v : Int32} (hd : decode cc pc = .ok (.putfield 25, 3)) (k : ∀ (H1 : Heap) (locs1 : List Loc), wX Z (ids g) A (cE Z A g (up2 μ 0 22 (upd (μ 0 22) 4 v))) A0 s H1 locs1 → W p l e R s m args below meth c H1 locs1 cells slots Q (F0 m (pc + 3) ls rest)) : W p l e R s m args below meth c H locs cells slots Q (F0 m pc ls (.int v :: .ref (A (0, 22)) :: rest)) :=
  r_put S hW (in_r (by decide) (by decide)) rfl rfl in_RX1 tyX1 tyX1_ok nmX1 4 (by decide) g_242 rfl (ty := .int) (by decide +kernel) rfl rfl (Nat.le_of_ble_eq_true rfl) (by simp [cE, cEo, up2, upd]) (fun y hy => cE_up y hy) hd k
theorem gp_X1_28 (S : CallFix p m c cc nL s args GT RX1) (hW : wX Z (ids g) A (cE Z A g μ) A0 s H locs) {v : Int32} (hd : decode cc pc = .ok (.putfield 28, 3)) (k : ∀ (H1 : Heap) (locs1 : List Loc), wX Z (ids g) A (cE Z A g (up2 μ 0 22 (upd (μ 0 22) 5 v))) A0 s H1 locs1 → W p l e R s m args below meth c H1 locs1 cells slots Q (F0 m (pc + 3) ls rest)) : W p l e R s m args below meth c H locs cells slots Q (F0 m pc ls (.int v :: .ref (A (0, 22)) :: rest)) :=
  r_put S hW (in_r (by decide) (by decide)) rfl rfl in_RX1 tyX1 tyX1_ok nmX1 5 (by decide) g_244 rfl (ty := .int) (by decide +kernel) rfl rfl (Nat.le_of_ble_eq_true rfl) (by simp [cE, cEo, up2, upd]) (fun y hy => cE_up y hy) hd k
theorem gp_X10_7 (S : CallFix p m c cc nL s args GT RX10) (hW : wX Z mds B (mE Z B ν) A0 s H locs) {v : Int32} (hd : decode cc pc = .ok (.putfield 7, 3)) (k : ∀ (H1 : Heap) (locs1 : List Loc), wX Z mds B (mE Z B (up1 ν 0 (upd (ν 0) 2 v))) A0 s H1 locs1 → W p l e R s m args below meth c H1 locs1 cells slots Q (F0 m (pc + 3) ls rest)) : W p l e R s m args below meth c H locs cells slots Q (F0 m pc ls (.int v :: .ref (B 0) :: rest)) :=
  r_put S hW (x := 0) (List.mem_range.mpr (by decide)) rfl rfl in_RX10 tyX10 tyX10_ok nmX10 2 (by decide) g_1267 rfl (ty := .int) (by decide +kernel) rfl rfl (Nat.le_of_ble_eq_true rfl) (by simp [mE, up1, upd]) (fun y hy => mE_up y hy) hd k
theorem gp_X10_13 (S : CallFix p m c cc nL s args GT RX10) (hW : wX Z mds B (mE Z B ν) A0 s H locs) {v : Int32} (hd : decode cc pc = .ok (.putfield 13, 3)) (k : ∀ (H1 : Heap) (locs1 : List Loc), wX Z mds B (mE Z B (up1 ν 0 (upd (ν 0) 3 v))) A0 s H1 locs1 → W p l e R s m args below meth c H1 locs1 cells slots Q (F0 m (pc + 3) ls rest)) : W p l e R s m args below meth c H locs cells slots Q (F0 m pc ls (.int v :: .ref (B 0) :: rest)) :=
  r_put S hW (x := 0) (List.mem_range.mpr (by decide)) rfl rfl in_RX10 tyX10 tyX10_ok nmX10 3 (by decide) g_1268 rfl (ty := .int) (by decide +kernel) rfl rfl (Nat.le_of_ble_eq_true rfl) (by simp [mE, up1, upd]) (fun y hy => mE_up y hy) hd k
theorem gp_X10_53 (S : CallFix p m c cc nL s args GT RX10) (hW : wX Z mds B (mE Z B ν) A0 s H locs) {v : Int32} (hd : decode cc pc = .ok (.putfield 53, 3)) (k : ∀ (H1 : Heap) (locs1 : List Loc), wX Z mds B (mE Z B (up1 ν 0 (upd (ν 0) 0 v))) A0 s H1 locs1 → W p l e R s m args below meth c H1 locs1 cells slots Q (F0 m (pc + 3) ls rest)) : W p l e R s m args below meth c H locs cells slots Q (F0 m pc ls (.int v :: .ref (B 0) :: rest)) :=
  r_put S hW (x := 0) (List.mem_range.mpr (by decide)) rfl rfl in_RX10 tyX10 tyX10_ok nmX10 0 (by decide) g_1265 rfl (ty := .int) (by decide +kernel) rfl rfl (Nat.le_of_ble_eq_true rfl) (by simp [mE, up1, upd]) (fun y hy => mE_up y hy) hd k
theorem gp_X10_60 (S : CallFix p m c cc nL s args GT RX10) (hW : wX Z mds B (mE Z B ν) A0 s H locs) {v : Int32} (hd : decode cc pc = .ok (.putfield 60, 3)) (k : ∀ (H1 : Heap) (locs1 : List Loc), wX Z mds B (mE Z B (up1 ν 0 (upd (ν 0) 1 v))) A0 s H1 locs1 → W p l e R s m args below meth c H1 locs1 cells slots Q (F0 m (pc + 3) ls rest)) : W p l e R s m args below meth c H locs cells slots Q (F0 m pc ls (.int v :: .ref (B 0) :: rest)) :=
  r_put S hW (x := 0) (List.mem_range.mpr (by decide)) rfl rfl in_RX10 tyX10 tyX10_ok nmX10 1 (by decide) g_1266 rfl (ty := .int) (by decide +kernel) rfl rfl (Nat.le_of_ble_eq_true rfl) (by simp [mE, up1, upd]) (fun y hy => mE_up y hy) hd k
theorem gp_X10_177 (S : CallFix p m c cc nL s args GT RX10) (hW : wX Z mds B (mE Z B ν) A0 s H locs) {v : Int32} (hd : decode cc pc = .ok (.putfield 177, 3)) (k : ∀ (H1 : Heap) (locs1 : List Loc), wX Z mds B (mE Z B (up1 ν 0 (upd (ν 0) 17 v))) A0 s H1 locs1 → W p l e R s m args below meth c H1 locs1 cells slots Q (F0 m (pc + 3) ls rest)) : W p l e R s m args below meth c H locs cells slots Q (F0 m pc ls (.int v :: .ref (B 0) :: rest)) :=
  r_put S hW (x := 0) (List.mem_range.mpr (by decide)) rfl rfl in_RX10 tyX10 tyX10_ok nmX10 17 (by decide) g_1282 rfl (ty := .int) (by decide +kernel) rfl rfl (Nat.le_of_ble_eq_true rfl) (by simp [mE, up1, upd]) (fun y hy => mE_up y hy) hd k
theorem gp_X10_180 (S : CallFix p m c cc nL s args GT RX10) (hW : wX Z mds B (mE Z B ν) A0 s H locs) {v : Int32} (hd : decode cc pc = .ok (.putfield 180, 3)) (k : ∀ (H1 : Heap) (locs1 : List Loc), wX Z mds B (mE Z B (up1 ν 0 (upd (ν 0) 18 v))) A0 s H1 locs1 → W p l e R s m args below meth c H1 locs1 cells slots Q (F0 m (pc + 3) ls rest)) : W p l e R s m args below meth c H locs cells slots Q (F0 m pc ls (.int v :: .ref (B 0) :: rest)) :=
  r_put S hW (x := 0) (List.mem_range.mpr (by decide)) rfl rfl in_RX10 tyX10 tyX10_ok nmX10 18 (by decide) g_1283 rfl (ty := .int) (by decide +kernel) rfl rfl (Nat.le_of_ble_eq_true rfl) (by simp [mE, up1, upd]) (fun y hy => mE_up y hy) hd k
theorem gp_X10_183 (S : CallFix p m c cc nL s args GT RX10) (hW : wX Z mds B (mE Z B ν) A0 s H locs) {v : Int32} (hd : decode cc pc = .ok (.putfield 183, 3)) (k : ∀ (H1 : Heap) (locs1 : List Loc), wX Z mds B (mE Z B (up1 ν 0 (upd (ν 0) 19 v))) A0 s H1 locs1 → W p l e R s m args below meth c H1 locs1 cells slots Q (F0 m (pc + 3) ls rest)) : W p l e R s m args below meth c H locs cells slots Q (F0 m pc ls (.int v :: .ref (B 0) :: rest)) :=
  r_put S hW (x := 0) (List.mem_range.mpr (by decide)) rfl rfl in_RX10 tyX10 tyX10_ok nmX10 19 (by decide) g_1284 rfl (ty := .int) (by decide +kernel) rfl rfl (Nat.le_of_ble_eq_true rfl) (by simp [mE, up1, upd]) (fun y hy => mE_up y hy) hd k
theorem gp_X10_186 (S : CallFix p m c cc nL s args GT RX10) (hW : wX Z mds B (mE Z B ν) A0 s H locs) {v : Int32} (hn : narrow .boolean (.int v) = .int v) (hf : fits .boolean (.int v) = true) (hd : decode cc pc = .ok (.putfield 186, 3)) (k : ∀ (H1 : Heap) (locs1 : List Loc), wX Z mds B (mE Z B (up1 ν 0 (upd (ν 0) 21 v))) A0 s H1 locs1 → W p l e R s m args below meth c H1 locs1 cells slots Q (F0 m (pc + 3) ls rest)) : W p l e R s m args below meth c H locs cells slots Q (F0 m pc ls (.int v :: .ref (B 0) :: rest)) :=
  r_put S hW (x := 0) (List.mem_range.mpr (by decide)) rfl rfl in_RX10 tyX10 tyX10_ok nmX10 21 (by decide) g_1286 rfl (ty := .boolean) (by decide +kernel) hn hf (Nat.le_of_ble_eq_true rfl) (by simp [mE, up1, upd]) (fun y hy => mE_up y hy) hd k
theorem gp_X10_206 (S : CallFix p m c cc nL s args GT RX10) (hW : wX Z mds B (mE Z B ν) A0 s H locs) {v : Int32} (hn : narrow .boolean (.int v) = .int v) (hf : fits .boolean (.int v) = true) (hd : decode cc pc = .ok (.putfield 206, 3)) (k : ∀ (H1 : Heap) (locs1 : List Loc), wX Z mds B (mE Z B (up1 ν 0 (upd (ν 0) 22 v))) A0 s H1 locs1 → W p l e R s m args below meth c H1 locs1 cells slots Q (F0 m (pc + 3) ls rest)) : W p l e R s m args below meth c H locs cells slots Q (F0 m pc ls (.int v :: .ref (B 0) :: rest)) :=
  r_put S hW (x := 0) (List.mem_range.mpr (by decide)) rfl rfl in_RX10 tyX10 tyX10_ok nmX10 22 (by decide) g_1287 rfl (ty := .boolean) (by decide +kernel) hn hf (Nat.le_of_ble_eq_true rfl) (by simp [mE, up1, upd]) (fun y hy => mE_up y hy) hd k
theorem gp_X10_219 (S : CallFix p m c cc nL s args GT RX10) (hW : wX Z mds B (mE Z B ν) A0 s H locs) {v : Int32} (hd : decode cc pc = .ok (.putfield 219, 3)) (k : ∀ (H1 : Heap) (locs1 : List Loc), wX Z mds B (mE Z B (up1 ν 0 (upd (ν 0) 20 v))) A0 s H1 locs1 → W p l e R s m args below meth c H1 locs1 cells slots Q (F0 m (pc + 3) ls rest)) : W p l e R s m args below meth c H locs cells slots Q (F0 m pc ls (.int v :: .ref (B 0) :: rest)) :=
  r_put S hW (x := 0) (List.mem_range.mpr (by decide)) rfl rfl in_RX10 tyX10 tyX10_ok nmX10 20 (by decide) g_1285 rfl (ty := .int) (by decide +kernel) rfl rfl (Nat.le_of_ble_eq_true rfl) (by simp [mE, up1, upd]) (fun y hy => mE_up y hy) hd k
theorem gp_X10_228 (S : CallFix p m c cc nL s args GT RX10) (hW : wX Z mds B (mE Z B ν) A0 s H locs) {v : Int32} (hn : narrow .boolean (.int v) = .int v) (hf : fits .boolean (.int v) = true) (hd : decode cc pc = .ok (.putfield 228, 3)) (k : ∀ (H1 : Heap) (locs1 : List Loc), wX Z mds B (mE Z B (up1 ν 0 (upd (ν 0) 4 v))) A0 s H1 locs1 → W p l e R s m args below meth c H1 locs1 cells slots Q (F0 m (pc + 3) ls rest)) : W p l e R s m args below meth c H locs cells slots Q (F0 m pc ls (.int v :: .ref (B 0) :: rest)) :=
  r_put S hW (x := 0) (List.mem_range.mpr (by decide)) rfl rfl in_RX10 tyX10 tyX10_ok nmX10 4 (by decide) g_1269 rfl (ty := .boolean) (by decide +kernel) hn hf (Nat.le_of_ble_eq_true rfl) (by simp [mE, up1, upd]) (fun y hy => mE_up y hy) hd k
theorem gp_X2_17 (S : CallFix p m c cc nL s args GT RX2) (hW : wX Z (ids g) A (cE Z A g μ) A0 s H locs) {v : Int32} (hd : decode cc pc = .ok (.putfield 17, 3)) (k : ∀ (H1 : Heap) (locs1 : List Loc), wX Z (ids g) A (cE Z A g (up2 μ 0 15 (upd (μ 0 15) 1 v))) A0 s H1 locs1 → W p l e R s m args below meth c H1 locs1 cells slots Q (F0 m (pc + 3) ls rest)) : W p l e R s m args below meth c H locs cells slots Q (F0 m pc ls (.int v :: .ref (A (0, 15)) :: rest)) :=
  r_put S hW (in_r (by decide) (by decide)) rfl rfl in_RX2 tyX2 tyX2_ok nmX2 1 (by decide) g_204 rfl (ty := .int) (by decide +kernel) rfl rfl (Nat.le_of_ble_eq_true rfl) (by simp [cE, cEo, up2, upd]) (fun y hy => cE_up y hy) hd k
theorem gp_X2_21 (S : CallFix p m c cc nL s args GT RX2) (hW : wX Z (ids g) A (cE Z A g μ) A0 s H locs) {v : Int32} (hd : decode cc pc = .ok (.putfield 21, 3)) (k : ∀ (H1 : Heap) (locs1 : List Loc), wX Z (ids g) A (cE Z A g (up2 μ 0 15 (upd (μ 0 15) 2 v))) A0 s H1 locs1 → W p l e R s m args below meth c H1 locs1 cells slots Q (F0 m (pc + 3) ls rest)) : W p l e R s m args below meth c H locs cells slots Q (F0 m pc ls (.int v :: .ref (A (0, 15)) :: rest)) :=
  r_put S hW (in_r (by decide) (by decide)) rfl rfl in_RX2 tyX2 tyX2_ok nmX2 2 (by decide) g_205 rfl (ty := .int) (by decide +kernel) rfl rfl (Nat.le_of_ble_eq_true rfl) (by simp [cE, cEo, up2, upd]) (fun y hy => cE_up y hy) hd k
theorem gp_X3_15 (S : CallFix p m c cc nL s args GT RX3) (hW : wX Z (ids g) A (cE Z A g μ) A0 s H locs) {v : Int32} (hd : decode cc pc = .ok (.putfield 15, 3)) (k : ∀ (H1 : Heap) (locs1 : List Loc), wX Z (ids g) A (cE Z A g (up2 μ 0 26 (upd (μ 0 26) 1 v))) A0 s H1 locs1 → W p l e R s m args below meth c H1 locs1 cells slots Q (F0 m (pc + 3) ls rest)) : W p l e R s m args below meth c H locs cells slots Q (F0 m pc ls (.int v :: .ref (A (0, 26)) :: rest)) :=
  r_put S hW (in_r (by decide) (by decide)) rfl rfl in_RX3 tyX3 tyX3_ok nmX3 1 (by decide) g_266 rfl (ty := .int) (by decide +kernel) rfl rfl (Nat.le_of_ble_eq_true rfl) (by simp [cE, cEo, up2, upd]) (fun y hy => cE_up y hy) hd k
theorem gp_X7_24 (S : CallFix p m c cc nL s args GT RX7) (hW : wX Z (ids g) A (cE Z A g μ) A0 s H locs) {b : Nat} (hb : tB g b) {v : Int32} (hd : decode cc pc = .ok (.putfield 24, 3)) (k : ∀ (H1 : Heap) (locs1 : List Loc), wX Z (ids g) A (cE Z A g (up2 μ b 9 (upd (μ b 9) 4 v))) A0 s H1 locs1 → W p l e R s m args below meth c H1 locs1 cells slots Q (F0 m (pc + 3) ls rest)) : W p l e R s m args below meth c H locs cells slots Q (F0 m pc ls (.int v :: .ref (A (b, 9)) :: rest)) :=
  r_put S hW (in_t hb (by decide) (by decide)) rfl rfl in_RX7 tyX7 tyX7_ok nmX7 4 (by decide) g_155 rfl (ty := .int) (by decide +kernel) rfl rfl (Nat.le_of_ble_eq_true rfl) (by simp [cE, cEo, up2, upd]) (fun y hy => cE_up y hy) hd k
theorem gp_X7_28 (S : CallFix p m c cc nL s args GT RX7) (hW : wX Z (ids g) A (cE Z A g μ) A0 s H locs) {b : Nat} (hb : tB g b) {v : Int32} (hd : decode cc pc = .ok (.putfield 28, 3)) (k : ∀ (H1 : Heap) (locs1 : List Loc), wX Z (ids g) A (cE Z A g (up2 μ b 9 (upd (μ b 9) 5 v))) A0 s H1 locs1 → W p l e R s m args below meth c H1 locs1 cells slots Q (F0 m (pc + 3) ls rest)) : W p l e R s m args below meth c H locs cells slots Q (F0 m pc ls (.int v :: .ref (A (b, 9)) :: rest)) :=
  r_put S hW (in_t hb (by decide) (by decide)) rfl rfl in_RX7 tyX7 tyX7_ok nmX7 5 (by decide) g_157 rfl (ty := .int) (by decide +kernel) rfl rfl (Nat.le_of_ble_eq_true rfl) (by simp [cE, cEo, up2, upd]) (fun y hy => cE_up y hy) hd k
theorem gp_X7_31 (S : CallFix p m c cc nL s args GT RX7) (hW : wX Z (ids g) A (cE Z A g μ) A0 s H locs) {b : Nat} (hb : tB g b) {v : Int32} (hd : decode cc pc = .ok (.putfield 31, 3)) (k : ∀ (H1 : Heap) (locs1 : List Loc), wX Z (ids g) A (cE Z A g (up2 μ b 9 (upd (μ b 9) 6 v))) A0 s H1 locs1 → W p l e R s m args below meth c H1 locs1 cells slots Q (F0 m (pc + 3) ls rest)) : W p l e R s m args below meth c H locs cells slots Q (F0 m pc ls (.int v :: .ref (A (b, 9)) :: rest)) :=
  r_put S hW (in_t hb (by decide) (by decide)) rfl rfl in_RX7 tyX7 tyX7_ok nmX7 6 (by decide) g_159 rfl (ty := .int) (by decide +kernel) rfl rfl (Nat.le_of_ble_eq_true rfl) (by simp [cE, cEo, up2, upd]) (fun y hy => cE_up y hy) hd k
theorem gp_X7_34 (S : CallFix p m c cc nL s args GT RX7) (hW : wX Z (ids g) A (cE Z A g μ) A0 s H locs) {b : Nat} (hb : tB g b) {v : Int32} (hd : decode cc pc = .ok (.putfield 34, 3)) (k : ∀ (H1 : Heap) (locs1 : List Loc), wX Z (ids g) A (cE Z A g (up2 μ b 9 (upd (μ b 9) 7 v))) A0 s H1 locs1 → W p l e R s m args below meth c H1 locs1 cells slots Q (F0 m (pc + 3) ls rest)) : W p l e R s m args below meth c H locs cells slots Q (F0 m pc ls (.int v :: .ref (A (b, 9)) :: rest)) :=
  r_put S hW (in_t hb (by decide) (by decide)) rfl rfl in_RX7 tyX7 tyX7_ok nmX7 7 (by decide) g_161 rfl (ty := .int) (by decide +kernel) rfl rfl (Nat.le_of_ble_eq_true rfl) (by simp [cE, cEo, up2, upd]) (fun y hy => cE_up y hy) hd k
theorem gp_X9_61 (S : CallFix p m c cc nL s args GT RX9) (hW : wX Z (ids g) A (cE Z A g μ) A0 s H locs) {v : Int32} (hn : narrow .boolean (.int v) = .int v) (hf : fits .boolean (.int v) = true) (hd : decode cc pc = .ok (.putfield 61, 3)) (k : ∀ (H1 : Heap) (locs1 : List Loc), wX Z (ids g) A (cE Z A g (up2 μ 0 14 (upd (μ 0 14) 9 v))) A0 s H1 locs1 → W p l e R s m args below meth c H1 locs1 cells slots Q (F0 m (pc + 3) ls rest)) : W p l e R s m args below meth c H locs cells slots Q (F0 m pc ls (.int v :: .ref (A (0, 14)) :: rest)) :=
  r_put S hW (in_r (by decide) (by decide)) rfl rfl in_RX9 tyX9 tyX9_ok nmX9 9 (by decide) g_282 rfl (ty := .boolean) (by decide +kernel) hn hf (Nat.le_of_ble_eq_true rfl) (by simp [cE, cEo, up2, upd]) (fun y hy => cE_up y hy) hd k
theorem gp_X9_65 (S : CallFix p m c cc nL s args GT RX9) (hW : wX Z (ids g) A (cE Z A g μ) A0 s H locs) {v : Int32} (hd : decode cc pc = .ok (.putfield 65, 3)) (k : ∀ (H1 : Heap) (locs1 : List Loc), wX Z (ids g) A (cE Z A g (up2 μ 0 14 (upd (μ 0 14) 10 v))) A0 s H1 locs1 → W p l e R s m args below meth c H1 locs1 cells slots Q (F0 m (pc + 3) ls rest)) : W p l e R s m args below meth c H locs cells slots Q (F0 m pc ls (.int v :: .ref (A (0, 14)) :: rest)) :=
  r_put S hW (in_r (by decide) (by decide)) rfl rfl in_RX9 tyX9 tyX9_ok nmX9 10 (by decide) g_283 rfl (ty := .int) (by decide +kernel) rfl rfl (Nat.le_of_ble_eq_true rfl) (by simp [cE, cEo, up2, upd]) (fun y hy => cE_up y hy) hd k
theorem gp_X9_69 (S : CallFix p m c cc nL s args GT RX9) (hW : wX Z (ids g) A (cE Z A g μ) A0 s H locs) {v : Int32} (hd : decode cc pc = .ok (.putfield 69, 3)) (k : ∀ (H1 : Heap) (locs1 : List Loc), wX Z (ids g) A (cE Z A g (up2 μ 0 14 (upd (μ 0 14) 11 v))) A0 s H1 locs1 → W p l e R s m args below meth c H1 locs1 cells slots Q (F0 m (pc + 3) ls rest)) : W p l e R s m args below meth c H locs cells slots Q (F0 m pc ls (.int v :: .ref (A (0, 14)) :: rest)) :=
  r_put S hW (in_r (by decide) (by decide)) rfl rfl in_RX9 tyX9 tyX9_ok nmX9 11 (by decide) g_284 rfl (ty := .int) (by decide +kernel) rfl rfl (Nat.le_of_ble_eq_true rfl) (by simp [cE, cEo, up2, upd]) (fun y hy => cE_up y hy) hd k
end GF
theorem k_J0_335 : lkV RJ0 RJ0 335 yJ0_coder_7d493 cJ0_coder_7d493 1 (some .byte) 0 := ⟨g_1075, g_1076, g_1077, g_87, g_1078, ⟨by decide +kernel, by decide +kernel, by decide +kernel⟩⟩
theorem k_J0_492 : lkV RJ0 RJ0 492 yJ0_isLatin1_aae02 cJ0_isLatin1_aae02 1 (some .boolean) 0 := ⟨g_1090, g_1091, g_1092, g_87, g_1093, ⟨by decide +kernel, by decide +kernel, by decide +kernel⟩⟩
theorem k_J0_495 : lkS RJ0 495 yJ1_charAt_3b067 cJ1_charAt_3b067 2 (some .char) 2 := ⟨g_1094, g_1095, g_89, g_1096, ⟨by decide +kernel, by decide +kernel, by decide +kernel⟩⟩
theorem k_J0_498 : lkS RJ0 498 yJ2_charAt_3b067 cJ2_charAt_3b067 2 (some .char) 2 := ⟨g_1105, g_1106, g_91, g_1107, ⟨by decide +kernel, by decide +kernel, by decide +kernel⟩⟩
theorem k_J0_1059 : lkS RJ0 1059 yJ3_checkIndex_8e157 cJ3_checkIndex_8e157 3 (some .int) 3 := ⟨g_1102, g_1103, g_90, g_1104, ⟨by decide +kernel, by decide +kernel, by decide +kernel⟩⟩
theorem k_J1_9 : lkS RJ1 9 yJ0_checkIndex_df160 cJ0_checkIndex_df160 2 (none) 2 := ⟨g_1097, g_1098, g_87, g_1099, ⟨by decide +kernel, by decide +kernel, by decide +kernel⟩⟩
theorem k_J2_48 : lkS RJ2 48 yJ2_length_9d52b cJ2_length_9d52b 1 (some .int) 1 := ⟨g_1111, g_1112, g_91, g_1113, ⟨by decide +kernel, by decide +kernel, by decide +kernel⟩⟩
theorem k_J2_67 : lkS RJ2 67 yJ2_checkIndex_2214a cJ2_checkIndex_2214a 2 (none) 2 := ⟨g_1108, g_1109, g_91, g_1110, ⟨by decide +kernel, by decide +kernel, by decide +kernel⟩⟩
theorem k_J2_71 : lkS RJ2 71 yJ2_getChar_3b067 cJ2_getChar_3b067 2 (some .char) 2 := ⟨g_1115, g_1116, g_91, g_1117, ⟨by decide +kernel, by decide +kernel, by decide +kernel⟩⟩
theorem k_J2_414 : lkS RJ2 414 yJ0_checkIndex_df160 cJ0_checkIndex_df160 2 (none) 2 := ⟨g_1114, g_1098, g_87, g_1099, ⟨by decide +kernel, by decide +kernel, by decide +kernel⟩⟩
theorem k_L_7 : lkV RL RX9 7 yX9_addFilter cX9_addFilter 3 (some .int) 2 := ⟨g_541, g_542, g_543, g_67, g_544, ⟨by decide +kernel, by decide +kernel, by decide +kernel⟩⟩
theorem k_L_17 : lkV RL RX9 17 yX9_insertFilter cX9_insertFilter 4 (some .int) 3 := ⟨g_723, g_724, g_725, g_67, g_726, ⟨by decide +kernel, by decide +kernel, by decide +kernel⟩⟩
theorem k_L_23 : lkV RL RX9 23 yX9_removeFilter cX9_removeFilter 2 (some .int) 1 := ⟨g_734, g_735, g_736, g_67, g_737, ⟨by decide +kernel, by decide +kernel, by decide +kernel⟩⟩
theorem k_L_27 : lkV RL RX9 27 yX9_swapFilters cX9_swapFilters 3 (some .int) 2 := ⟨g_749, g_750, g_751, g_67, g_752, ⟨by decide +kernel, by decide +kernel, by decide +kernel⟩⟩
theorem k_L_31 : lkV RL RX9 31 yX9_filterKind cX9_filterKind 2 (some .char) 1 := ⟨g_761, g_762, g_763, g_67, g_764, ⟨by decide +kernel, by decide +kernel, by decide +kernel⟩⟩
theorem k_L_35 : lkV RL RX9 35 yX9_filterParameter cX9_filterParameter 2 (some .int) 1 := ⟨g_768, g_769, g_770, g_67, g_771, ⟨by decide +kernel, by decide +kernel, by decide +kernel⟩⟩
theorem k_L_38 : lkV RL RX9 38 yX9_addNote cX9_addNote 5 (some .int) 4 := ⟨g_775, g_776, g_777, g_67, g_778, ⟨by decide +kernel, by decide +kernel, by decide +kernel⟩⟩
theorem k_L_42 : lkV RL RX9 42 yX9_removeNote cX9_removeNote 2 (some .int) 1 := ⟨g_800, g_801, g_802, g_67, g_803, ⟨by decide +kernel, by decide +kernel, by decide +kernel⟩⟩
theorem k_L_47 : lkV RL RX9 47 yX9_noteCount cX9_noteCount 2 (some .int) 1 := ⟨g_815, g_816, g_817, g_67, g_818, ⟨by decide +kernel, by decide +kernel, by decide +kernel⟩⟩
theorem k_L_50 : lkV RL RX9 50 yX9_songLength cX9_songLength 2 (some .int) 1 := ⟨g_824, g_825, g_826, g_67, g_827, ⟨by decide +kernel, by decide +kernel, by decide +kernel⟩⟩
theorem k_L_53 : lkV RL RX9 53 yX9_rawSample cX9_rawSample 3 (some .int) 2 := ⟨g_831, g_832, g_833, g_67, g_834, ⟨by decide +kernel, by decide +kernel, by decide +kernel⟩⟩
theorem k_L_56 : lkV RL RX9 56 yX9_sample cX9_sample 3 (some .int) 2 := ⟨g_847, g_848, g_849, g_67, g_850, ⟨by decide +kernel, by decide +kernel, by decide +kernel⟩⟩
theorem k_L_59 : lkV RL RX9 59 yX9_sampleByFilter cX9_sampleByFilter 3 (some .int) 2 := ⟨g_859, g_860, g_861, g_67, g_862, ⟨by decide +kernel, by decide +kernel, by decide +kernel⟩⟩
theorem k_L_62 : lkV RL RX9 62 yX9_mixedSample cX9_mixedSample 4 (some .int) 3 := ⟨g_866, g_867, g_868, g_67, g_869, ⟨by decide +kernel, by decide +kernel, by decide +kernel⟩⟩
theorem k_L_66 : lkV RL RX9 66 yX9_peak cX9_peak 5 (some .int) 1 := ⟨g_874, g_875, g_876, g_67, g_877, ⟨by decide +kernel, by decide +kernel, by decide +kernel⟩⟩
theorem k_L_69 : lkV RL RX9 69 yX9_energy cX9_energy 2 (some .long) 1 := ⟨g_882, g_883, g_884, g_67, g_885, ⟨by decide +kernel, by decide +kernel, by decide +kernel⟩⟩
theorem k_L_73 : lkV RL RX9 73 yX9_signChanges cX9_signChanges 7 (some .int) 1 := ⟨g_889, g_890, g_891, g_67, g_892, ⟨by decide +kernel, by decide +kernel, by decide +kernel⟩⟩
theorem k_L_76 : lkV RL RX9 76 yX9_addTank cX9_addTank 2 (some .int) 1 := ⟨g_899, g_900, g_901, g_67, g_902, ⟨by decide +kernel, by decide +kernel, by decide +kernel⟩⟩
theorem k_L_79 : lkV RL RX9 79 yX9_setTuning cX9_setTuning 3 (some .int) 2 := ⟨g_915, g_916, g_917, g_67, g_918, ⟨by decide +kernel, by decide +kernel, by decide +kernel⟩⟩
theorem k_L_82 : lkV RL RX9 82 yX9_pour cX9_pour 2 (some .int) 1 := ⟨g_934, g_935, g_936, g_67, g_937, ⟨by decide +kernel, by decide +kernel, by decide +kernel⟩⟩
theorem k_L_85 : lkV RL RX9 85 yX9_drain cX9_drain 3 (some .int) 2 := ⟨g_941, g_942, g_943, g_67, g_944, ⟨by decide +kernel, by decide +kernel, by decide +kernel⟩⟩
theorem k_L_88 : lkV RL RX9 88 yX9_capacity cX9_capacity 2 (some .int) 1 := ⟨g_961, g_962, g_963, g_67, g_964, ⟨by decide +kernel, by decide +kernel, by decide +kernel⟩⟩
theorem k_L_91 : lkV RL RX9 91 yX9_tuning cX9_tuning 2 (some .int) 1 := ⟨g_969, g_970, g_971, g_67, g_972, ⟨by decide +kernel, by decide +kernel, by decide +kernel⟩⟩
theorem k_L_94 : lkV RL RX9 94 yX9_level cX9_level 2 (some .int) 1 := ⟨g_976, g_977, g_978, g_67, g_979, ⟨by decide +kernel, by decide +kernel, by decide +kernel⟩⟩
theorem k_L_97 : lkV RL RX9 97 yX9_frameLoudness cX9_frameLoudness 3 (some .int) 2 := ⟨g_983, g_984, g_985, g_67, g_986, ⟨by decide +kernel, by decide +kernel, by decide +kernel⟩⟩
theorem k_L_100 : lkV RL RX9 100 yX9_frameCount cX9_frameCount 2 (some .int) 1 := ⟨g_995, g_996, g_997, g_67, g_998, ⟨by decide +kernel, by decide +kernel, by decide +kernel⟩⟩
theorem k_L_103 : lkV RL RX9 103 yX9_dropsFor cX9_dropsFor 2 (some .int) 1 := ⟨g_1002, g_1003, g_1004, g_67, g_1005, ⟨by decide +kernel, by decide +kernel, by decide +kernel⟩⟩
theorem k_L_106 : lkV RL RX9 106 yX9_dropsByLevels cX9_dropsByLevels 2 (some .int) 1 := ⟨g_1009, g_1010, g_1011, g_67, g_1012, ⟨by decide +kernel, by decide +kernel, by decide +kernel⟩⟩
theorem k_L_109 : lkV RL RX9 109 yX9_tankAtRank cX9_tankAtRank 3 (some .int) 1 := ⟨g_1016, g_1017, g_1018, g_67, g_1019, ⟨by decide +kernel, by decide +kernel, by decide +kernel⟩⟩
theorem k_L_112 : lkV RL RX9 112 yX9_append cX9_append 2 (some .int) 1 := ⟨g_1036, g_1037, g_1038, g_67, g_1039, ⟨by decide +kernel, by decide +kernel, by decide +kernel⟩⟩
theorem k_L_116 : lkV RL RX9 116 yX9_run cX9_run 3 (some .int) 0 := ⟨g_1053, g_1054, g_1055, g_67, g_1056, ⟨by decide +kernel, by decide +kernel, by decide +kernel⟩⟩
theorem k_L_120 : lkV RL RX9 120 yX9_errorPosition cX9_errorPosition 1 (some .int) 0 := ⟨g_1166, g_1167, g_1168, g_67, g_1169, ⟨by decide +kernel, by decide +kernel, by decide +kernel⟩⟩
theorem k_L_123 : lkV RL RX9 123 yX9_failedCommand cX9_failedCommand 1 (some .int) 0 := ⟨g_1174, g_1175, g_1176, g_67, g_1177, ⟨by decide +kernel, by decide +kernel, by decide +kernel⟩⟩
theorem k_L_126 : lkV RL RX9 126 yX9_describeTank cX9_describeTank 3 (some .int) 1 := ⟨g_1182, g_1183, g_1184, g_67, g_1185, ⟨by decide +kernel, by decide +kernel, by decide +kernel⟩⟩
theorem k_L_129 : lkV RL RX9 129 yX9_lineAt cX9_lineAt 2 (some .char) 1 := ⟨g_1189, g_1190, g_1191, g_67, g_1192, ⟨by decide +kernel, by decide +kernel, by decide +kernel⟩⟩
theorem k_L_132 : lkV RL RX9 132 yX9_meanLevel cX9_meanLevel 6 (some .double) 1 := ⟨g_1216, g_1217, g_1218, g_67, g_1219, ⟨by decide +kernel, by decide +kernel, by decide +kernel⟩⟩
theorem k_L_138 : lkV RL RX9 138 yX9_filledShare cX9_filledShare 2 (some .float) 0 := ⟨g_1226, g_1227, g_1228, g_67, g_1229, ⟨by decide +kernel, by decide +kernel, by decide +kernel⟩⟩
theorem k_L_142 : lkV RL RX9 142 yX9_undo cX9_undo 1 (some .int) 0 := ⟨g_1238, g_1239, g_1240, g_67, g_1241, ⟨by decide +kernel, by decide +kernel, by decide +kernel⟩⟩
theorem k_L_145 : lkV RL RX9 145 yX9_restore cX9_restore 1 (some .int) 0 := ⟨g_1250, g_1251, g_1252, g_67, g_1253, ⟨by decide +kernel, by decide +kernel, by decide +kernel⟩⟩
theorem k_L_148 : lkI RL 148 yX9_init cX9_init 1 0 := ⟨g_95, g_96, g_67, g_97, by decide, ⟨by decide +kernel, by decide +kernel, by decide +kernel⟩⟩
theorem k_L_151 : lkI RL 151 yX10_init cX10_init 1 0 := ⟨g_1261, g_1262, g_76, g_1263, by decide, ⟨by decide +kernel, by decide +kernel, by decide +kernel⟩⟩
theorem k_L_157 : lkV RL RX10 157 yX10_addFilter cX10_addFilter 3 (some .int) 2 := ⟨g_1339, g_1340, g_1341, g_76, g_1342, ⟨by decide +kernel, by decide +kernel, by decide +kernel⟩⟩
theorem k_L_158 : lkV RL RX10 158 yX10_thrown cX10_thrown 1 (some .int) 0 := ⟨g_1335, g_1336, g_1337, g_76, g_1338, ⟨by decide +kernel, by decide +kernel, by decide +kernel⟩⟩
theorem k_L_164 : lkV RL RX10 164 yX10_insertFilter cX10_insertFilter 4 (some .int) 3 := ⟨g_1372, g_1373, g_1374, g_76, g_1375, ⟨by decide +kernel, by decide +kernel, by decide +kernel⟩⟩
theorem k_L_168 : lkV RL RX10 168 yX10_removeFilter cX10_removeFilter 2 (some .int) 1 := ⟨g_1380, g_1381, g_1382, g_76, g_1383, ⟨by decide +kernel, by decide +kernel, by decide +kernel⟩⟩
theorem k_L_172 : lkV RL RX10 172 yX10_swapFilters cX10_swapFilters 3 (some .int) 2 := ⟨g_1392, g_1393, g_1394, g_76, g_1395, ⟨by decide +kernel, by decide +kernel, by decide +kernel⟩⟩
theorem k_L_173 : lkV RL RX9 173 yX9_filterCount cX9_filterCount 1 (some .int) 0 := ⟨g_310, g_311, g_312, g_67, g_313, ⟨by decide +kernel, by decide +kernel, by decide +kernel⟩⟩
theorem k_L_176 : lkV RL RX10 176 yX10_filterCount cX10_filterCount 1 (some .int) 0 := ⟨g_1403, g_1404, g_1405, g_76, g_1406, ⟨by decide +kernel, by decide +kernel, by decide +kernel⟩⟩
theorem k_L_179 : lkV RL RX10 179 yX10_filterKind cX10_filterKind 2 (some .char) 1 := ⟨g_1407, g_1408, g_1409, g_76, g_1410, ⟨by decide +kernel, by decide +kernel, by decide +kernel⟩⟩
theorem k_L_182 : lkV RL RX10 182 yX10_filterParameter cX10_filterParameter 2 (some .int) 1 := ⟨g_1411, g_1412, g_1413, g_76, g_1414, ⟨by decide +kernel, by decide +kernel, by decide +kernel⟩⟩
theorem k_L_186 : lkV RL RX10 186 yX10_addNote cX10_addNote 5 (some .int) 4 := ⟨g_1415, g_1416, g_1417, g_76, g_1418, ⟨by decide +kernel, by decide +kernel, by decide +kernel⟩⟩
theorem k_L_189 : lkV RL RX10 189 yX10_removeNote cX10_removeNote 2 (some .int) 1 := ⟨g_1426, g_1427, g_1428, g_76, g_1429, ⟨by decide +kernel, by decide +kernel, by decide +kernel⟩⟩
theorem k_L_192 : lkV RL RX10 192 yX10_noteCount cX10_noteCount 2 (some .int) 1 := ⟨g_1434, g_1435, g_1436, g_76, g_1437, ⟨by decide +kernel, by decide +kernel, by decide +kernel⟩⟩
theorem k_L_195 : lkV RL RX10 195 yX10_songLength cX10_songLength 2 (some .int) 1 := ⟨g_1442, g_1443, g_1444, g_76, g_1445, ⟨by decide +kernel, by decide +kernel, by decide +kernel⟩⟩
theorem k_L_198 : lkV RL RX10 198 yX10_rawSample cX10_rawSample 3 (some .int) 2 := ⟨g_1446, g_1447, g_1448, g_76, g_1449, ⟨by decide +kernel, by decide +kernel, by decide +kernel⟩⟩
theorem k_L_201 : lkV RL RX10 201 yX10_sample cX10_sample 3 (some .int) 2 := ⟨g_1458, g_1459, g_1460, g_76, g_1461, ⟨by decide +kernel, by decide +kernel, by decide +kernel⟩⟩
theorem k_L_204 : lkV RL RX10 204 yX10_sampleByFilter cX10_sampleByFilter 3 (some .int) 2 := ⟨g_1474, g_1475, g_1476, g_76, g_1477, ⟨by decide +kernel, by decide +kernel, by decide +kernel⟩⟩
theorem k_L_208 : lkV RL RX10 208 yX10_mixedSample cX10_mixedSample 5 (some .int) 3 := ⟨g_1479, g_1480, g_1481, g_76, g_1482, ⟨by decide +kernel, by decide +kernel, by decide +kernel⟩⟩
theorem k_L_211 : lkV RL RX10 211 yX10_peak cX10_peak 2 (some .int) 1 := ⟨g_1483, g_1484, g_1485, g_76, g_1486, ⟨by decide +kernel, by decide +kernel, by decide +kernel⟩⟩
theorem k_L_214 : lkV RL RX10 214 yX10_energy cX10_energy 2 (some .long) 1 := ⟨g_1491, g_1492, g_1493, g_76, g_1494, ⟨by decide +kernel, by decide +kernel, by decide +kernel⟩⟩
theorem k_L_217 : lkV RL RX10 217 yX10_signChanges cX10_signChanges 5 (some .int) 1 := ⟨g_1499, g_1500, g_1501, g_76, g_1502, ⟨by decide +kernel, by decide +kernel, by decide +kernel⟩⟩
theorem k_L_218 : lkV RL RX9 218 yX9_strongestSong cX9_strongestSong 7 (some .int) 0 := ⟨g_314, g_315, g_316, g_67, g_317, ⟨by decide +kernel, by decide +kernel, by decide +kernel⟩⟩
theorem k_L_221 : lkV RL RX10 221 yX10_strongestSong cX10_strongestSong 3 (some .int) 0 := ⟨g_1503, g_1504, g_1505, g_76, g_1506, ⟨by decide +kernel, by decide +kernel, by decide +kernel⟩⟩
theorem k_L_224 : lkV RL RX10 224 yX10_addTank cX10_addTank 2 (some .int) 1 := ⟨g_1507, g_1508, g_1509, g_76, g_1510, ⟨by decide +kernel, by decide +kernel, by decide +kernel⟩⟩
theorem k_L_227 : lkV RL RX10 227 yX10_setTuning cX10_setTuning 3 (some .int) 2 := ⟨g_1518, g_1519, g_1520, g_76, g_1521, ⟨by decide +kernel, by decide +kernel, by decide +kernel⟩⟩
theorem k_L_230 : lkV RL RX10 230 yX10_pour cX10_pour 2 (some .int) 1 := ⟨g_1530, g_1531, g_1532, g_76, g_1533, ⟨by decide +kernel, by decide +kernel, by decide +kernel⟩⟩
theorem k_L_233 : lkV RL RX10 233 yX10_drain cX10_drain 3 (some .int) 2 := ⟨g_1550, g_1551, g_1552, g_76, g_1553, ⟨by decide +kernel, by decide +kernel, by decide +kernel⟩⟩
theorem k_L_234 : lkV RL RX9 234 yX9_tankCount cX9_tankCount 1 (some .int) 0 := ⟨g_378, g_379, g_380, g_67, g_381, ⟨by decide +kernel, by decide +kernel, by decide +kernel⟩⟩
theorem k_L_237 : lkV RL RX10 237 yX10_tankCount cX10_tankCount 1 (some .int) 0 := ⟨g_1558, g_1559, g_1560, g_76, g_1561, ⟨by decide +kernel, by decide +kernel, by decide +kernel⟩⟩
theorem k_L_240 : lkV RL RX10 240 yX10_capacity cX10_capacity 2 (some .int) 1 := ⟨g_1562, g_1563, g_1564, g_76, g_1565, ⟨by decide +kernel, by decide +kernel, by decide +kernel⟩⟩
theorem k_L_243 : lkV RL RX10 243 yX10_tuning cX10_tuning 2 (some .int) 1 := ⟨g_1570, g_1571, g_1572, g_76, g_1573, ⟨by decide +kernel, by decide +kernel, by decide +kernel⟩⟩
theorem k_L_246 : lkV RL RX10 246 yX10_level cX10_level 2 (some .int) 1 := ⟨g_1574, g_1575, g_1576, g_76, g_1577, ⟨by decide +kernel, by decide +kernel, by decide +kernel⟩⟩
theorem k_L_249 : lkV RL RX10 249 yX10_frameLoudness cX10_frameLoudness 3 (some .int) 2 := ⟨g_1578, g_1579, g_1580, g_76, g_1581, ⟨by decide +kernel, by decide +kernel, by decide +kernel⟩⟩
theorem k_L_252 : lkV RL RX10 252 yX10_frameCount cX10_frameCount 2 (some .int) 1 := ⟨g_1582, g_1583, g_1584, g_76, g_1585, ⟨by decide +kernel, by decide +kernel, by decide +kernel⟩⟩
theorem k_L_255 : lkV RL RX10 255 yX10_dropsFor cX10_dropsFor 4 (some .int) 1 := ⟨g_1586, g_1587, g_1588, g_76, g_1589, ⟨by decide +kernel, by decide +kernel, by decide +kernel⟩⟩
theorem k_L_258 : lkV RL RX10 258 yX10_dropsByLevels cX10_dropsByLevels 2 (some .int) 1 := ⟨g_1590, g_1591, g_1592, g_76, g_1593, ⟨by decide +kernel, by decide +kernel, by decide +kernel⟩⟩
theorem k_L_261 : lkV RL RX10 261 yX10_tankAtRank cX10_tankAtRank 6 (some .int) 1 := ⟨g_1595, g_1596, g_1597, g_76, g_1598, ⟨by decide +kernel, by decide +kernel, by decide +kernel⟩⟩
theorem k_L_262 : lkV RL RX9 262 yX9_storedTotal cX9_storedTotal 1 (some .int) 0 := ⟨g_382, g_383, g_384, g_67, g_385, ⟨by decide +kernel, by decide +kernel, by decide +kernel⟩⟩
theorem k_L_265 : lkV RL RX10 265 yX10_storedTotal cX10_storedTotal 1 (some .int) 0 := ⟨g_1599, g_1600, g_1601, g_76, g_1602, ⟨by decide +kernel, by decide +kernel, by decide +kernel⟩⟩
theorem k_L_266 : lkV RL RX9 266 yX9_droppedTotal cX9_droppedTotal 1 (some .int) 0 := ⟨g_386, g_387, g_388, g_67, g_389, ⟨by decide +kernel, by decide +kernel, by decide +kernel⟩⟩
theorem k_L_269 : lkV RL RX10 269 yX10_droppedTotal cX10_droppedTotal 1 (some .int) 0 := ⟨g_1603, g_1604, g_1605, g_76, g_1606, ⟨by decide +kernel, by decide +kernel, by decide +kernel⟩⟩
theorem k_L_270 : lkV RL RX9 270 yX9_drainedTotal cX9_drainedTotal 1 (some .int) 0 := ⟨g_390, g_391, g_392, g_67, g_393, ⟨by decide +kernel, by decide +kernel, by decide +kernel⟩⟩
theorem k_L_273 : lkV RL RX10 273 yX10_drainedTotal cX10_drainedTotal 1 (some .int) 0 := ⟨g_1607, g_1608, g_1609, g_76, g_1610, ⟨by decide +kernel, by decide +kernel, by decide +kernel⟩⟩
theorem k_L_277 : lkV RL RX10 277 yX10_append cX10_append 2 (some .int) 1 := ⟨g_1611, g_1612, g_1613, g_76, g_1614, ⟨by decide +kernel, by decide +kernel, by decide +kernel⟩⟩
theorem k_L_281 : lkV RL RX10 281 yX10_run cX10_run 2 (some .int) 0 := ⟨g_1615, g_1616, g_1617, g_76, g_1618, ⟨by decide +kernel, by decide +kernel, by decide +kernel⟩⟩
theorem k_L_284 : lkV RL RX10 284 yX10_errorPosition cX10_errorPosition 1 (some .int) 0 := ⟨g_1651, g_1652, g_1653, g_76, g_1654, ⟨by decide +kernel, by decide +kernel, by decide +kernel⟩⟩
theorem k_L_287 : lkV RL RX10 287 yX10_failedCommand cX10_failedCommand 1 (some .int) 0 := ⟨g_1655, g_1656, g_1657, g_76, g_1658, ⟨by decide +kernel, by decide +kernel, by decide +kernel⟩⟩
theorem k_L_288 : lkV RL RX9 288 yX9_describeChain cX9_describeChain 3 (some .int) 0 := ⟨g_394, g_395, g_396, g_67, g_397, ⟨by decide +kernel, by decide +kernel, by decide +kernel⟩⟩
theorem k_L_291 : lkV RL RX10 291 yX10_describeChain cX10_describeChain 2 (some .int) 0 := ⟨g_1659, g_1660, g_1661, g_76, g_1662, ⟨by decide +kernel, by decide +kernel, by decide +kernel⟩⟩
theorem k_L_294 : lkV RL RX10 294 yX10_describeTank cX10_describeTank 3 (some .int) 1 := ⟨g_1671, g_1672, g_1673, g_76, g_1674, ⟨by decide +kernel, by decide +kernel, by decide +kernel⟩⟩
theorem k_L_297 : lkV RL RX10 297 yX10_lineAt cX10_lineAt 2 (some .char) 1 := ⟨g_1675, g_1676, g_1677, g_76, g_1678, ⟨by decide +kernel, by decide +kernel, by decide +kernel⟩⟩
theorem k_L_301 : lkV RL RX10 301 yX10_meanLevel cX10_meanLevel 4 (some .double) 1 := ⟨g_1679, g_1680, g_1681, g_76, g_1682, ⟨by decide +kernel, by decide +kernel, by decide +kernel⟩⟩
theorem k_L_305 : lkV RL RX10 305 yX10_filledShare cX10_filledShare 4 (some .float) 0 := ⟨g_1683, g_1684, g_1685, g_76, g_1686, ⟨by decide +kernel, by decide +kernel, by decide +kernel⟩⟩
theorem k_L_306 : lkV RL RX9 306 yX9_isConsistent cX9_isConsistent 2 (some .boolean) 0 := ⟨g_415, g_416, g_417, g_67, g_418, ⟨by decide +kernel, by decide +kernel, by decide +kernel⟩⟩
theorem k_L_310 : lkV RL RX10 310 yX10_isConsistent cX10_isConsistent 3 (some .boolean) 0 := ⟨g_1687, g_1688, g_1689, g_76, g_1690, ⟨by decide +kernel, by decide +kernel, by decide +kernel⟩⟩
theorem k_L_313 : lkV RL RX10 313 yX10_undo cX10_undo 2 (some .int) 0 := ⟨g_1691, g_1692, g_1693, g_76, g_1694, ⟨by decide +kernel, by decide +kernel, by decide +kernel⟩⟩
theorem k_L_314 : lkV RL RX9 314 yX9_save cX9_save 1 (some .int) 0 := ⟨g_517, g_518, g_519, g_67, g_520, ⟨by decide +kernel, by decide +kernel, by decide +kernel⟩⟩
theorem k_L_317 : lkV RL RX10 317 yX10_save cX10_save 1 (some .int) 0 := ⟨g_1695, g_1696, g_1697, g_76, g_1698, ⟨by decide +kernel, by decide +kernel, by decide +kernel⟩⟩
theorem k_L_320 : lkV RL RX10 320 yX10_restore cX10_restore 1 (some .int) 0 := ⟨g_1699, g_1700, g_1701, g_76, g_1702, ⟨by decide +kernel, by decide +kernel, by decide +kernel⟩⟩
theorem k_X0_22 : lkSN RX0 "SongRefinery" 22 yX9_copyRow cX9_copyRow 2 (none) 2 := ⟨n_529, g_449, g_67, g_450, ⟨by decide +kernel, by decide +kernel, by decide +kernel⟩⟩
theorem k_X0_26 : lkSN RX0 "SongRefinery" 26 yX9_read cX9_read 2 (some .int) 2 := ⟨n_352, g_331, g_67, g_332, ⟨by decide +kernel, by decide +kernel, by decide +kernel⟩⟩
theorem k_X0_30 : lkSN RX0 "SongRefinery" 30 yX9_isWithin cX9_isWithin 3 (some .boolean) 3 := ⟨n_552, g_553, g_67, g_554, ⟨by decide +kernel, by decide +kernel, by decide +kernel⟩⟩
theorem k_X0_34 : lkS RX0 34 yX0_isKindWith cX0_isKindWith 2 (some .boolean) 2 := ⟨g_549, g_550, g_69, g_551, ⟨by decide +kernel, by decide +kernel, by decide +kernel⟩⟩
theorem k_X0_38 : lkSN RX0 "SongRefinery" 38 yX9_write cX9_write 3 (none) 3 := ⟨n_698, g_372, g_67, g_373, ⟨by decide +kernel, by decide +kernel, by decide +kernel⟩⟩
theorem k_X0_42 : lkV RX0 RX0 42 yX0_kindAt cX0_kindAt 2 (some .int) 1 := ⟨g_692, g_349, g_350, g_69, g_351, ⟨by decide +kernel, by decide +kernel, by decide +kernel⟩⟩
theorem k_X0_46 : lkV RX0 RX0 46 yX0_parameterAt cX0_parameterAt 2 (some .int) 1 := ⟨g_693, g_354, g_355, g_69, g_356, ⟨by decide +kernel, by decide +kernel, by decide +kernel⟩⟩
theorem k_X0_49 : lkV RX0 RX0 49 yX0_setFilter cX0_setFilter 4 (none) 3 := ⟨g_694, g_696, g_16, g_69, g_697, ⟨by decide +kernel, by decide +kernel, by decide +kernel⟩⟩
theorem k_X1_31 : lkSN RX1 "SongRefinery" 31 yX9_isWithin cX9_isWithin 3 (some .boolean) 3 := ⟨n_1044, g_553, g_67, g_554, ⟨by decide +kernel, by decide +kernel, by decide +kernel⟩⟩
theorem k_X1_35 : lkSN RX1 "SongRefinery" 35 yX9_write cX9_write 3 (none) 3 := ⟨n_1049, g_372, g_67, g_373, ⟨by decide +kernel, by decide +kernel, by decide +kernel⟩⟩
theorem k_X1_39 : lkSN RX1 "SongRefinery" 39 yX9_read cX9_read 2 (some .int) 2 := ⟨n_1085, g_331, g_67, g_332, ⟨by decide +kernel, by decide +kernel, by decide +kernel⟩⟩
theorem k_X1_43 : lkV RX1 RX1 43 yX1_takeCommand cX1_takeCommand 7 (some .boolean) 0 := ⟨g_1061, g_1063, g_20, g_74, g_1064, ⟨by decide +kernel, by decide +kernel, by decide +kernel⟩⟩
theorem k_X1_47 : lkV RX1 RX1 47 yX1_takeSign cX1_takeSign 2 (some .boolean) 1 := ⟨g_1128, g_1130, g_24, g_74, g_1131, ⟨by decide +kernel, by decide +kernel, by decide +kernel⟩⟩
theorem k_X1_51 : lkV RX1 RX1 51 yX1_characterAt cX1_characterAt 2 (some .int) 1 := ⟨g_1081, g_1083, g_22, g_74, g_1084, ⟨by decide +kernel, by decide +kernel, by decide +kernel⟩⟩
theorem k_X1_65 : lkV RX1 RX1 65 yX1_sameCharacters cX1_sameCharacters 3 (some .int) 1 := ⟨g_1067, g_1069, g_21, g_74, g_1070, ⟨by decide +kernel, by decide +kernel, by decide +kernel⟩⟩
theorem k_X1_69 : lkV RX1 RJ0 69 yJ0_length_8abf5 cJ0_length_8abf5 1 (some .int) 0 := ⟨g_1071, g_1072, g_1073, g_87, g_1074, ⟨by decide +kernel, by decide +kernel, by decide +kernel⟩⟩
theorem k_X1_74 : lkV RX1 RX1 74 yX1_takeNumbers cX1_takeNumbers 4 (some .boolean) 1 := ⟨g_1124, g_1126, g_23, g_74, g_1127, ⟨by decide +kernel, by decide +kernel, by decide +kernel⟩⟩
theorem k_X1_78 : lkS RX1 78 yJ9_max_7cf53 cJ9_max_7cf53 2 (some .int) 2 := ⟨g_1140, g_369, g_85, g_370, ⟨by decide +kernel, by decide +kernel, by decide +kernel⟩⟩
theorem k_X1_84 : lkV RX1 RJ0 84 yJ0_charAt_5068e cJ0_charAt_5068e 2 (some .char) 1 := ⟨g_1086, g_1087, g_1088, g_87, g_1089, ⟨by decide +kernel, by decide +kernel, by decide +kernel⟩⟩
theorem k_X1_91 : lkV RX1 RX1 91 yX1_takeNumber cX1_takeNumber 4 (some .int) 1 := ⟨g_1132, g_1134, g_25, g_74, g_1135, ⟨by decide +kernel, by decide +kernel, by decide +kernel⟩⟩
theorem k_X1_94 : lkV RX1 RJ0 94 yJ0_isEmpty_aae02 cJ0_isEmpty_aae02 1 (some .boolean) 0 := ⟨g_1136, g_1137, g_1138, g_87, g_1139, ⟨by decide +kernel, by decide +kernel, by decide +kernel⟩⟩
theorem k_X10_56 : lkS RX10 56 yX10_lays cX10_lays 3 (none) 2 := ⟨g_1347, g_1348, g_76, g_1349, ⟨by decide +kernel, by decide +kernel, by decide +kernel⟩⟩
theorem k_X10_63 : lkS RX10 63 yX10_isIn cX10_isIn 3 (some .boolean) 3 := ⟨g_1357, g_1358, g_76, g_1359, ⟨by decide +kernel, by decide +kernel, by decide +kernel⟩⟩
theorem k_X10_67 : lkS RX10 67 yX10_isAllowed cX10_isAllowed 2 (some .boolean) 2 := ⟨g_1354, g_1355, g_76, g_1356, ⟨by decide +kernel, by decide +kernel, by decide +kernel⟩⟩
theorem k_X10_71 : lkV RX10 RX10 71 yX10_fail cX10_fail 2 (some .int) 1 := ⟨g_1360, g_1362, g_30, g_76, g_1363, ⟨by decide +kernel, by decide +kernel, by decide +kernel⟩⟩
theorem k_X10_75 : lkV RX10 RX10 75 yX10_inserts cX10_inserts 5 (some .int) 3 := ⟨g_1364, g_1366, g_31, g_76, g_1367, ⟨by decide +kernel, by decide +kernel, by decide +kernel⟩⟩
theorem k_X10_79 : lkV RX10 RX10 79 yX10_begins cX10_begins 1 (none) 0 := ⟨g_1343, g_1345, g_28, g_76, g_1346, ⟨by decide +kernel, by decide +kernel, by decide +kernel⟩⟩
theorem k_X10_82 : lkV RX10 RX10 82 yX10_adds cX10_adds 3 (some .int) 2 := ⟨g_1350, g_1352, g_29, g_76, g_1353, ⟨by decide +kernel, by decide +kernel, by decide +kernel⟩⟩
theorem k_X10_86 : lkV RX10 RX10 86 yX10_ends cX10_ends 3 (some .int) 1 := ⟨g_1368, g_1370, g_32, g_76, g_1371, ⟨by decide +kernel, by decide +kernel, by decide +kernel⟩⟩
theorem k_X10_89 : lkV RX10 RX10 89 yX10_puts cX10_puts 4 (some .int) 3 := ⟨g_1376, g_1378, g_33, g_76, g_1379, ⟨by decide +kernel, by decide +kernel, by decide +kernel⟩⟩
theorem k_X10_92 : lkV RX10 RX10 92 yX10_isFilter cX10_isFilter 2 (some .boolean) 1 := ⟨g_1388, g_1390, g_35, g_76, g_1391, ⟨by decide +kernel, by decide +kernel, by decide +kernel⟩⟩
theorem k_X10_96 : lkV RX10 RX10 96 yX10_takes cX10_takes 4 (some .int) 1 := ⟨g_1384, g_1386, g_34, g_76, g_1387, ⟨by decide +kernel, by decide +kernel, by decide +kernel⟩⟩
theorem k_X10_99 : lkS RX10 99 yX10_size cX10_size 1 (some .int) 1 := ⟨g_1400, g_1401, g_76, g_1402, ⟨by decide +kernel, by decide +kernel, by decide +kernel⟩⟩
theorem k_X10_102 : lkV RX10 RX10 102 yX10_swaps cX10_swaps 6 (some .int) 2 := ⟨g_1396, g_1398, g_36, g_76, g_1399, ⟨by decide +kernel, by decide +kernel, by decide +kernel⟩⟩
theorem k_X10_105 : lkS RX10 105 yX10_isSong cX10_isSong 1 (some .boolean) 1 := ⟨g_1423, g_1424, g_76, g_1425, ⟨by decide +kernel, by decide +kernel, by decide +kernel⟩⟩
theorem k_X10_108 : lkV RX10 RX10 108 yX10_notes cX10_notes 7 (some .int) 4 := ⟨g_1419, g_1421, g_37, g_76, g_1422, ⟨by decide +kernel, by decide +kernel, by decide +kernel⟩⟩
theorem k_X10_112 : lkV RX10 RX10 112 yX10_takesNote cX10_takesNote 4 (some .int) 1 := ⟨g_1430, g_1432, g_38, g_76, g_1433, ⟨by decide +kernel, by decide +kernel, by decide +kernel⟩⟩
theorem k_X10_115 : lkV RX10 RX10 115 yX10_tells cX10_tells 3 (some .int) 2 := ⟨g_1438, g_1440, g_39, g_76, g_1441, ⟨by decide +kernel, by decide +kernel, by decide +kernel⟩⟩
theorem k_X10_118 : lkV RX10 RX10 118 yX10_isSample cX10_isSample 3 (some .boolean) 2 := ⟨g_1454, g_1456, g_41, g_76, g_1457, ⟨by decide +kernel, by decide +kernel, by decide +kernel⟩⟩
theorem k_X10_121 : lkV RX10 RX10 121 yX10_looks cX10_looks 3 (some .int) 2 := ⟨g_1450, g_1452, g_40, g_76, g_1453, ⟨by decide +kernel, by decide +kernel, by decide +kernel⟩⟩
theorem k_X10_124 : lkV RX10 RX10 124 yX10_mean cX10_mean 5 (some .int) 2 := ⟨g_1470, g_1472, g_44, g_76, g_1473, ⟨by decide +kernel, by decide +kernel, by decide +kernel⟩⟩
theorem k_X10_127 : lkV RX10 RX10 127 yX10_passes cX10_passes 5 (some .int) 3 := ⟨g_1466, g_1468, g_43, g_76, g_1469, ⟨by decide +kernel, by decide +kernel, by decide +kernel⟩⟩
theorem k_X10_130 : lkV RX10 RX10 130 yX10_filters cX10_filters 4 (none) 1 := ⟨g_1462, g_1464, g_42, g_76, g_1465, ⟨by decide +kernel, by decide +kernel, by decide +kernel⟩⟩
theorem k_X10_134 : lkV RX10 RX10 134 yX10_sample cX10_sample 3 (some .int) 2 := ⟨g_1478, g_1459, g_1460, g_76, g_1461, ⟨by decide +kernel, by decide +kernel, by decide +kernel⟩⟩
theorem k_X10_137 : lkV RX10 RX10 137 yX10_loud cX10_loud 5 (some .int) 2 := ⟨g_1487, g_1489, g_45, g_76, g_1490, ⟨by decide +kernel, by decide +kernel, by decide +kernel⟩⟩
theorem k_X10_140 : lkV RX10 RX10 140 yX10_power cX10_power 5 (some .long) 1 := ⟨g_1495, g_1497, g_46, g_76, g_1498, ⟨by decide +kernel, by decide +kernel, by decide +kernel⟩⟩
theorem k_X10_144 : lkS RX10 144 yX10_of cX10_of 2 (some .int) 2 := ⟨g_1515, g_1516, g_76, g_1517, ⟨by decide +kernel, by decide +kernel, by decide +kernel⟩⟩
theorem k_X10_147 : lkV RX10 RX10 147 yX10_addsTank cX10_addsTank 3 (some .int) 1 := ⟨g_1511, g_1513, g_47, g_76, g_1514, ⟨by decide +kernel, by decide +kernel, by decide +kernel⟩⟩
theorem k_X10_150 : lkV RX10 RX10 150 yX10_isTank cX10_isTank 2 (some .boolean) 1 := ⟨g_1526, g_1528, g_49, g_76, g_1529, ⟨by decide +kernel, by decide +kernel, by decide +kernel⟩⟩
theorem k_X10_153 : lkV RX10 RX10 153 yX10_tunes cX10_tunes 4 (some .int) 2 := ⟨g_1522, g_1524, g_48, g_76, g_1525, ⟨by decide +kernel, by decide +kernel, by decide +kernel⟩⟩
theorem k_X10_156 : lkV RX10 RX10 156 yX10_room cX10_room 2 (some .int) 1 := ⟨g_1546, g_1548, g_53, g_76, g_1549, ⟨by decide +kernel, by decide +kernel, by decide +kernel⟩⟩
theorem k_X10_159 : lkV RX10 RX10 159 yX10_tankFor cX10_tankFor 5 (some .int) 1 := ⟨g_1542, g_1544, g_52, g_76, g_1545, ⟨by decide +kernel, by decide +kernel, by decide +kernel⟩⟩
theorem k_X10_162 : lkV RX10 RX10 162 yX10_pours cX10_pours 7 (some .int) 1 := ⟨g_1538, g_1540, g_51, g_76, g_1541, ⟨by decide +kernel, by decide +kernel, by decide +kernel⟩⟩
theorem k_X10_165 : lkV RX10 RX10 165 yX10_poursAll cX10_poursAll 2 (some .int) 1 := ⟨g_1534, g_1536, g_50, g_76, g_1537, ⟨by decide +kernel, by decide +kernel, by decide +kernel⟩⟩
theorem k_X10_168 : lkV RX10 RX10 168 yX10_drains cX10_drains 5 (some .int) 2 := ⟨g_1554, g_1556, g_54, g_76, g_1557, ⟨by decide +kernel, by decide +kernel, by decide +kernel⟩⟩
theorem k_X10_171 : lkV RX10 RX10 171 yX10_tellsTank cX10_tellsTank 3 (some .int) 2 := ⟨g_1566, g_1568, g_55, g_76, g_1569, ⟨by decide +kernel, by decide +kernel, by decide +kernel⟩⟩
theorem k_X10_174 : lkV RX10 RX10 174 yX10_dropsFor cX10_dropsFor 4 (some .int) 1 := ⟨g_1594, g_1587, g_1588, g_76, g_1589, ⟨by decide +kernel, by decide +kernel, by decide +kernel⟩⟩
theorem k_X10_190 : lkV RX10 RX10 190 yX10_sign cX10_sign 1 (some .int) 0 := ⟨g_1631, g_1633, g_59, g_76, g_1634, ⟨by decide +kernel, by decide +kernel, by decide +kernel⟩⟩
theorem k_X10_194 : lkV RX10 RX10 194 yX10_mark cX10_mark 2 (none) 1 := ⟨g_1643, g_1645, g_62, g_76, g_1646, ⟨by decide +kernel, by decide +kernel, by decide +kernel⟩⟩
theorem k_X10_197 : lkV RX10 RX10 197 yX10_digits cX10_digits 4 (some .int) 1 := ⟨g_1635, g_1637, g_60, g_76, g_1638, ⟨by decide +kernel, by decide +kernel, by decide +kernel⟩⟩
theorem k_X10_200 : lkV RX10 RX10 200 yX10_word cX10_word 5 (some .int) 0 := ⟨g_1627, g_1629, g_58, g_76, g_1630, ⟨by decide +kernel, by decide +kernel, by decide +kernel⟩⟩
theorem k_X10_203 : lkV RX10 RX10 203 yX10_behind cX10_behind 2 (some .int) 1 := ⟨g_1639, g_1641, g_61, g_76, g_1642, ⟨by decide +kernel, by decide +kernel, by decide +kernel⟩⟩
theorem k_X10_209 : lkV RX10 RX10 209 yX10_does cX10_does 6 (some .int) 5 := ⟨g_1647, g_1649, g_63, g_76, g_1650, ⟨by decide +kernel, by decide +kernel, by decide +kernel⟩⟩
theorem k_X10_213 : lkV RX10 RX10 213 yX10_command cX10_command 7 (none) 0 := ⟨g_1623, g_1625, g_57, g_76, g_1626, ⟨by decide +kernel, by decide +kernel, by decide +kernel⟩⟩
theorem k_X10_216 : lkV RX10 RX10 216 yX10_commands cX10_commands 2 (some .int) 0 := ⟨g_1619, g_1621, g_56, g_76, g_1622, ⟨by decide +kernel, by decide +kernel, by decide +kernel⟩⟩
theorem k_X10_222 : lkV RX10 RX10 222 yX10_writes cX10_writes 2 (none) 1 := ⟨g_1663, g_1665, g_64, g_76, g_1666, ⟨by decide +kernel, by decide +kernel, by decide +kernel⟩⟩
theorem k_X10_225 : lkV RX10 RX10 225 yX10_writesNumber cX10_writesNumber 3 (none) 1 := ⟨g_1667, g_1669, g_65, g_76, g_1670, ⟨by decide +kernel, by decide +kernel, by decide +kernel⟩⟩
theorem k_X2_24 : lkIN RX2 "SongRefinery" 24 yX6_init cX6_init 1 0 := ⟨n_685, g_104, g_68, g_105, by decide, ⟨by decide +kernel, by decide +kernel, by decide +kernel⟩⟩
theorem k_X2_25 : lkV RX2 RX2 25 yX2_stateAt cX2_stateAt 4 (some (.object "SongRefinery$State")) 1 := ⟨g_681, g_683, g_15, g_72, g_684, ⟨by decide +kernel, by decide +kernel, by decide +kernel⟩⟩
theorem k_X2_29 : lkV RX2 RX6 29 yX6_copyFrom cX6_copyFrom 2 (none) 1 := ⟨g_686, g_522, g_523, g_68, g_524, ⟨by decide +kernel, by decide +kernel, by decide +kernel⟩⟩
theorem k_X2_33 : lkS RX2 33 yJ9_min_7cf53 cJ9_min_7cf53 2 (some .int) 2 := ⟨g_687, g_366, g_85, g_367, ⟨by decide +kernel, by decide +kernel, by decide +kernel⟩⟩
theorem k_X3_19 : lkSN RX3 "SongRefinery" 19 yX9_read cX9_read 2 (some .int) 2 := ⟨n_1198, g_331, g_67, g_332, ⟨by decide +kernel, by decide +kernel, by decide +kernel⟩⟩
theorem k_X3_23 : lkSN RX3 "SongRefinery" 23 yX9_write cX9_write 3 (none) 3 := ⟨n_406, g_372, g_67, g_373, ⟨by decide +kernel, by decide +kernel, by decide +kernel⟩⟩
theorem k_X3_28 : lkV RX3 RX3 28 yX3_putSign cX3_putSign 2 (none) 1 := ⟨g_414, g_403, g_404, g_75, g_405, ⟨by decide +kernel, by decide +kernel, by decide +kernel⟩⟩
theorem k_X4_21 : lkSN RX4 "SongRefinery" 21 yX9_read cX9_read 2 (some .int) 2 := ⟨n_361, g_331, g_67, g_332, ⟨by decide +kernel, by decide +kernel, by decide +kernel⟩⟩
theorem k_X4_25 : lkS RX4 25 yJ7_fill_53178 cJ7_fill_53178 4 (none) 2 := ⟨g_337, g_338, g_88, g_339, ⟨by decide +kernel, by decide +kernel, by decide +kernel⟩⟩
theorem k_X4_37 : lkV RX4 RX5 37 yX5_rawAt cX5_rawAt 3 (some .int) 2 := ⟨g_340, g_341, g_342, g_70, g_343, ⟨by decide +kernel, by decide +kernel, by decide +kernel⟩⟩
theorem k_X4_53 : lkV RX4 RX4 53 yX4_pass cX4_pass 10 (some .int) 4 := ⟨g_344, g_346, g_2, g_73, g_347, ⟨by decide +kernel, by decide +kernel, by decide +kernel⟩⟩
theorem k_X4_57 : lkSN RX4 "SongRefinery" 57 yX9_write cX9_write 3 (none) 3 := ⟨n_371, g_372, g_67, g_373, ⟨by decide +kernel, by decide +kernel, by decide +kernel⟩⟩
theorem k_X4_61 : lkV RX4 RX0 61 yX0_kindAt cX0_kindAt 2 (some .int) 1 := ⟨g_348, g_349, g_350, g_69, g_351, ⟨by decide +kernel, by decide +kernel, by decide +kernel⟩⟩
theorem k_X4_65 : lkV RX4 RX0 65 yX0_parameterAt cX0_parameterAt 2 (some .int) 1 := ⟨g_353, g_354, g_355, g_69, g_356, ⟨by decide +kernel, by decide +kernel, by decide +kernel⟩⟩
theorem k_X4_68 : lkV RX4 RX4 68 yX4_recall cX4_recall 3 (some .int) 2 := ⟨g_357, g_359, g_3, g_73, g_360, ⟨by decide +kernel, by decide +kernel, by decide +kernel⟩⟩
theorem k_X4_71 : lkS RX4 71 yX4_changed cX4_changed 3 (some .int) 3 := ⟨g_362, g_363, g_73, g_364, ⟨by decide +kernel, by decide +kernel, by decide +kernel⟩⟩
theorem k_X4_75 : lkS RX4 75 yJ9_min_7cf53 cJ9_min_7cf53 2 (some .int) 2 := ⟨g_365, g_366, g_85, g_367, ⟨by decide +kernel, by decide +kernel, by decide +kernel⟩⟩
theorem k_X4_80 : lkS RX4 80 yJ9_max_7cf53 cJ9_max_7cf53 2 (some .int) 2 := ⟨g_368, g_369, g_85, g_370, ⟨by decide +kernel, by decide +kernel, by decide +kernel⟩⟩
theorem k_X4_83 : lkV RX4 RX5 83 yX5_samplesOf cX5_samplesOf 2 (some .int) 1 := ⟨g_427, g_327, g_328, g_70, g_329, ⟨by decide +kernel, by decide +kernel, by decide +kernel⟩⟩
theorem k_X4_86 : lkV RX4 RX4 86 yX4_passAll cX4_passAll 5 (none) 3 := ⟨g_428, g_430, g_5, g_73, g_431, ⟨by decide +kernel, by decide +kernel, by decide +kernel⟩⟩
theorem k_X4_90 : lkV RX4 RX4 90 yX4_givenAt cX4_givenAt 6 (some .int) 3 := ⟨g_432, g_434, g_6, g_73, g_435, ⟨by decide +kernel, by decide +kernel, by decide +kernel⟩⟩
theorem k_X4_93 : lkS RX4 93 yJ9_abs_0f7a4 cJ9_abs_0f7a4 1 (some .int) 1 := ⟨g_467, g_468, g_85, g_469, ⟨by decide +kernel, by decide +kernel, by decide +kernel⟩⟩
theorem k_X5_24 : lkSN RX5 "SongRefinery" 24 yX9_copyRow cX9_copyRow 2 (none) 2 := ⟨n_534, g_449, g_67, g_450, ⟨by decide +kernel, by decide +kernel, by decide +kernel⟩⟩
theorem k_X5_28 : lkSN RX5 "SongRefinery" 28 yX9_read cX9_read 2 (some .int) 2 := ⟨n_330, g_331, g_67, g_332, ⟨by decide +kernel, by decide +kernel, by decide +kernel⟩⟩
theorem k_X5_32 : lkV RX5 RX5 32 yX5_samplesOf cX5_samplesOf 2 (some .int) 1 := ⟨g_458, g_327, g_328, g_70, g_329, ⟨by decide +kernel, by decide +kernel, by decide +kernel⟩⟩
theorem k_X5_36 : lkSN RX5 "SongRefinery" 36 yX9_isWithin cX9_isWithin 3 (some .boolean) 3 := ⟨n_786, g_553, g_67, g_554, ⟨by decide +kernel, by decide +kernel, by decide +kernel⟩⟩
theorem k_X5_40 : lkS RX5 40 yX5_faultOfSong cX5_faultOfSong 1 (some .int) 1 := ⟨g_783, g_784, g_70, g_785, ⟨by decide +kernel, by decide +kernel, by decide +kernel⟩⟩
theorem k_X5_43 : lkV RX5 RX5 43 yX5_notesOf cX5_notesOf 2 (some .int) 1 := ⟨g_792, g_793, g_794, g_70, g_795, ⟨by decide +kernel, by decide +kernel, by decide +kernel⟩⟩
theorem k_X5_46 : lkV RX5 RX5 46 yX5_hasSample cX5_hasSample 3 (some .boolean) 2 := ⟨g_839, g_840, g_841, g_70, g_842, ⟨by decide +kernel, by decide +kernel, by decide +kernel⟩⟩
theorem k_X5_50 : lkSN RX5 "SongRefinery" 50 yX9_write cX9_write 3 (none) 3 := ⟨n_791, g_372, g_67, g_373, ⟨by decide +kernel, by decide +kernel, by decide +kernel⟩⟩
theorem k_X6_9 : lkIN RX6 "SongRefinery" 9 yX0_init cX0_init 1 0 := ⟨n_109, g_110, g_69, g_111, by decide, ⟨by decide +kernel, by decide +kernel, by decide +kernel⟩⟩
theorem k_X6_18 : lkIN RX6 "SongRefinery" 18 yX5_init cX5_init 1 0 := ⟨n_128, g_129, g_70, g_130, by decide, ⟨by decide +kernel, by decide +kernel, by decide +kernel⟩⟩
theorem k_X6_25 : lkIN RX6 "SongRefinery" 25 yX7_init cX7_init 1 0 := ⟨n_147, g_148, g_71, g_149, by decide, ⟨by decide +kernel, by decide +kernel, by decide +kernel⟩⟩
theorem k_X6_30 : lkV RX6 RX0 30 yX0_copyFrom cX0_copyFrom 2 (none) 1 := ⟨g_525, g_526, g_527, g_69, g_528, ⟨by decide +kernel, by decide +kernel, by decide +kernel⟩⟩
theorem k_X6_34 : lkV RX6 RX5 34 yX5_copyFrom cX5_copyFrom 2 (none) 1 := ⟨g_530, g_531, g_532, g_70, g_533, ⟨by decide +kernel, by decide +kernel, by decide +kernel⟩⟩
theorem k_X6_37 : lkV RX6 RX7 37 yX7_copyFrom cX7_copyFrom 2 (none) 1 := ⟨g_535, g_445, g_446, g_71, g_447, ⟨by decide +kernel, by decide +kernel, by decide +kernel⟩⟩
theorem k_X7_37 : lkSN RX7 "SongRefinery" 37 yX9_copyRow cX9_copyRow 2 (none) 2 := ⟨n_448, g_449, g_67, g_450, ⟨by decide +kernel, by decide +kernel, by decide +kernel⟩⟩
theorem k_X7_41 : lkSN RX7 "SongRefinery" 41 yX9_read cX9_read 2 (some .int) 2 := ⟨n_482, g_331, g_67, g_332, ⟨by decide +kernel, by decide +kernel, by decide +kernel⟩⟩
theorem k_X7_45 : lkSN RX7 "SongRefinery" 45 yX9_write cX9_write 3 (none) 3 := ⟨n_499, g_372, g_67, g_373, ⟨by decide +kernel, by decide +kernel, by decide +kernel⟩⟩
theorem k_X7_49 : lkSN RX7 "SongRefinery" 49 yX9_isWithin cX9_isWithin 3 (some .boolean) 3 := ⟨n_907, g_553, g_67, g_554, ⟨by decide +kernel, by decide +kernel, by decide +kernel⟩⟩
theorem k_X7_53 : lkV RX7 RX7 53 yX7_faultOfTank cX7_faultOfTank 2 (some .int) 1 := ⟨g_923, g_924, g_925, g_71, g_926, ⟨by decide +kernel, by decide +kernel, by decide +kernel⟩⟩
theorem k_X7_57 : lkV RX7 RX7 57 yX7_levelOf cX7_levelOf 2 (some .int) 1 := ⟨g_478, g_479, g_480, g_71, g_481, ⟨by decide +kernel, by decide +kernel, by decide +kernel⟩⟩
theorem k_X7_60 : lkV RX7 RX7 60 yX7_tuningOf cX7_tuningOf 2 (some .int) 1 := ⟨g_487, g_488, g_489, g_71, g_490, ⟨by decide +kernel, by decide +kernel, by decide +kernel⟩⟩
theorem k_X7_63 : lkV RX7 RX7 63 yX7_accepts cX7_accepts 3 (some .boolean) 2 := ⟨g_474, g_476, g_9, g_71, g_477, ⟨by decide +kernel, by decide +kernel, by decide +kernel⟩⟩
theorem k_X7_67 : lkV RX7 RX7 67 yX7_roomOf cX7_roomOf 2 (some .int) 1 := ⟨g_491, g_493, g_10, g_71, g_494, ⟨by decide +kernel, by decide +kernel, by decide +kernel⟩⟩
theorem k_X7_70 : lkV RX7 RX7 70 yX7_setFrame cX7_setFrame 4 (none) 3 := ⟨g_495, g_497, g_11, g_71, g_498, ⟨by decide +kernel, by decide +kernel, by decide +kernel⟩⟩
theorem k_X7_74 : lkV RX7 RX7 74 yX7_capacityOf cX7_capacityOf 2 (some .int) 1 := ⟨g_483, g_484, g_485, g_71, g_486, ⟨by decide +kernel, by decide +kernel, by decide +kernel⟩⟩
theorem k_X7_77 : lkV RX7 RX7 77 yX7_frameAt cX7_frameAt 3 (some .int) 2 := ⟨g_953, g_954, g_955, g_71, g_956, ⟨by decide +kernel, by decide +kernel, by decide +kernel⟩⟩
theorem k_X7_81 : lkS RX7 81 yJ9_max_7cf53 cJ9_max_7cf53 2 (some .int) 2 := ⟨g_957, g_369, g_85, g_370, ⟨by decide +kernel, by decide +kernel, by decide +kernel⟩⟩
theorem k_X7_86 : lkV RX7 RX7 86 yX7_tanksAheadOf cX7_tanksAheadOf 4 (some .int) 1 := ⟨g_1024, g_1026, g_18, g_71, g_1027, ⟨by decide +kernel, by decide +kernel, by decide +kernel⟩⟩
theorem k_X7_89 : lkV RX7 RX7 89 yX7_isAhead cX7_isAhead 3 (some .boolean) 2 := ⟨g_1028, g_1030, g_19, g_71, g_1031, ⟨by decide +kernel, by decide +kernel, by decide +kernel⟩⟩
theorem k_X9_9 : lkIN RX9 "SongRefinery" 9 yX6_init cX6_init 1 0 := ⟨n_103, g_104, g_68, g_105, by decide, ⟨by decide +kernel, by decide +kernel, by decide +kernel⟩⟩
theorem k_X9_24 : lkIN RX9 "SongRefinery" 24 yX2_init cX2_init 1 0 := ⟨n_197, g_198, g_72, g_199, by decide, ⟨by decide +kernel, by decide +kernel, by decide +kernel⟩⟩
theorem k_X9_31 : lkIN RX9 "SongRefinery" 31 yX4_init cX4_init 1 0 := ⟨n_216, g_217, g_73, g_218, by decide, ⟨by decide +kernel, by decide +kernel, by decide +kernel⟩⟩
theorem k_X9_38 : lkIN RX9 "SongRefinery" 38 yX7_init cX7_init 1 0 := ⟨n_231, g_148, g_71, g_149, by decide, ⟨by decide +kernel, by decide +kernel, by decide +kernel⟩⟩
theorem k_X9_49 : lkIN RX9 "SongRefinery" 49 yX1_init cX1_init 1 0 := ⟨n_234, g_235, g_74, g_236, by decide, ⟨by decide +kernel, by decide +kernel, by decide +kernel⟩⟩
theorem k_X9_56 : lkIN RX9 "SongRefinery" 56 yX3_init cX3_init 1 0 := ⟨n_261, g_262, g_75, g_263, by decide, ⟨by decide +kernel, by decide +kernel, by decide +kernel⟩⟩
theorem k_X9_76 : lkV RX9 RX0 76 yX0_faultOfNewFilter cX0_faultOfNewFilter 3 (some .int) 2 := ⟨g_545, g_546, g_547, g_69, g_548, ⟨by decide +kernel, by decide +kernel, by decide +kernel⟩⟩
theorem k_X9_82 : lkS RX9 82 yX9_throwFault cX9_throwFault 1 (none) 1 := ⟨g_555, g_556, g_67, g_557, ⟨by decide +kernel, by decide +kernel, by decide +kernel⟩⟩
theorem k_X9_86 : lkV RX9 RX2 86 yX2_push cX2_push 2 (none) 1 := ⟨g_677, g_678, g_679, g_72, g_680, ⟨by decide +kernel, by decide +kernel, by decide +kernel⟩⟩
theorem k_X9_93 : lkV RX9 RX0 93 yX0_putFilter cX0_putFilter 5 (some .int) 3 := ⟨g_688, g_689, g_690, g_69, g_691, ⟨by decide +kernel, by decide +kernel, by decide +kernel⟩⟩
theorem k_X9_97 : lkV RX9 RX0 97 yX0_faultOfNewPosition cX0_faultOfNewPosition 2 (some .int) 1 := ⟨g_727, g_728, g_729, g_69, g_730, ⟨by decide +kernel, by decide +kernel, by decide +kernel⟩⟩
theorem k_X9_101 : lkV RX9 RX0 101 yX0_faultOfPosition cX0_faultOfPosition 2 (some .int) 1 := ⟨g_738, g_739, g_740, g_69, g_741, ⟨by decide +kernel, by decide +kernel, by decide +kernel⟩⟩
theorem k_X9_104 : lkV RX9 RX0 104 yX0_takeFilter cX0_takeFilter 4 (some .int) 1 := ⟨g_742, g_743, g_744, g_69, g_745, ⟨by decide +kernel, by decide +kernel, by decide +kernel⟩⟩
theorem k_X9_107 : lkV RX9 RX0 107 yX0_exchange cX0_exchange 5 (none) 2 := ⟨g_753, g_754, g_755, g_69, g_756, ⟨by decide +kernel, by decide +kernel, by decide +kernel⟩⟩
theorem k_X9_111 : lkS RX9 111 yJ9_abs_0f7a4 cJ9_abs_0f7a4 1 (some .int) 1 := ⟨g_757, g_468, g_85, g_469, ⟨by decide +kernel, by decide +kernel, by decide +kernel⟩⟩
theorem k_X9_116 : lkV RX9 RX0 116 yX0_kindAt cX0_kindAt 2 (some .int) 1 := ⟨g_407, g_349, g_350, g_69, g_351, ⟨by decide +kernel, by decide +kernel, by decide +kernel⟩⟩
theorem k_X9_119 : lkV RX9 RX0 119 yX0_parameterAt cX0_parameterAt 2 (some .int) 1 := ⟨g_408, g_354, g_355, g_69, g_356, ⟨by decide +kernel, by decide +kernel, by decide +kernel⟩⟩
theorem k_X9_126 : lkV RX9 RX5 126 yX5_faultOfNewNote cX5_faultOfNewNote 5 (some .int) 4 := ⟨g_779, g_780, g_781, g_70, g_782, ⟨by decide +kernel, by decide +kernel, by decide +kernel⟩⟩
theorem k_X9_132 : lkV RX9 RX5 132 yX5_putNote cX5_putNote 9 (some .int) 4 := ⟨g_787, g_788, g_789, g_70, g_790, ⟨by decide +kernel, by decide +kernel, by decide +kernel⟩⟩
theorem k_X9_135 : lkV RX9 RX5 135 yX5_faultOfPlaying cX5_faultOfPlaying 2 (some .int) 1 := ⟨g_804, g_805, g_806, g_70, g_807, ⟨by decide +kernel, by decide +kernel, by decide +kernel⟩⟩
theorem k_X9_138 : lkV RX9 RX5 138 yX5_takeNote cX5_takeNote 4 (some .int) 1 := ⟨g_808, g_809, g_810, g_70, g_811, ⟨by decide +kernel, by decide +kernel, by decide +kernel⟩⟩
theorem k_X9_141 : lkS RX9 141 yX5_faultOfSong cX5_faultOfSong 1 (some .int) 1 := ⟨g_819, g_784, g_70, g_785, ⟨by decide +kernel, by decide +kernel, by decide +kernel⟩⟩
theorem k_X9_144 : lkV RX9 RX5 144 yX5_notesOf cX5_notesOf 2 (some .int) 1 := ⟨g_820, g_793, g_794, g_70, g_795, ⟨by decide +kernel, by decide +kernel, by decide +kernel⟩⟩
theorem k_X9_147 : lkV RX9 RX5 147 yX5_samplesOf cX5_samplesOf 2 (some .int) 1 := ⟨g_326, g_327, g_328, g_70, g_329, ⟨by decide +kernel, by decide +kernel, by decide +kernel⟩⟩
theorem k_X9_150 : lkV RX9 RX5 150 yX5_faultOfSample cX5_faultOfSample 3 (some .int) 2 := ⟨g_835, g_836, g_837, g_70, g_838, ⟨by decide +kernel, by decide +kernel, by decide +kernel⟩⟩
theorem k_X9_153 : lkV RX9 RX5 153 yX5_rawAt cX5_rawAt 3 (some .int) 2 := ⟨g_843, g_341, g_342, g_70, g_343, ⟨by decide +kernel, by decide +kernel, by decide +kernel⟩⟩
theorem k_X9_156 : lkV RX9 RX9 156 yX9_filteredOrZero cX9_filteredOrZero 3 (some .int) 2 := ⟨g_851, g_853, g_17, g_67, g_854, ⟨by decide +kernel, by decide +kernel, by decide +kernel⟩⟩
theorem k_X9_159 : lkV RX9 RX4 159 yX4_sendByFilter cX4_sendByFilter 5 (none) 2 := ⟨g_423, g_424, g_425, g_73, g_426, ⟨by decide +kernel, by decide +kernel, by decide +kernel⟩⟩
theorem k_X9_163 : lkV RX9 RX4 163 yX4_givenByFilter cX4_givenByFilter 2 (some .int) 1 := ⟨g_436, g_437, g_438, g_73, g_439, ⟨by decide +kernel, by decide +kernel, by decide +kernel⟩⟩
theorem k_X9_166 : lkV RX9 RX5 166 yX5_hasSample cX5_hasSample 3 (some .boolean) 2 := ⟨g_855, g_840, g_841, g_70, g_842, ⟨by decide +kernel, by decide +kernel, by decide +kernel⟩⟩
theorem k_X9_177 : lkV RX9 RX9 177 yX9_sendSong cX9_sendSong 3 (some .int) 1 := ⟨g_322, g_324, g_1, g_67, g_325, ⟨by decide +kernel, by decide +kernel, by decide +kernel⟩⟩
theorem k_X9_180 : lkV RX9 RX4 180 yX4_given cX4_given 2 (some .int) 1 := ⟨g_374, g_375, g_376, g_73, g_377, ⟨by decide +kernel, by decide +kernel, by decide +kernel⟩⟩
theorem k_X9_183 : lkS RX9 183 yJ9_max_7cf53 cJ9_max_7cf53 2 (some .int) 2 := ⟨g_878, g_369, g_85, g_370, ⟨by decide +kernel, by decide +kernel, by decide +kernel⟩⟩
theorem k_X9_186 : lkV RX9 RX9 186 yX9_sumOfSquares cX9_sumOfSquares 8 (some .long) 1 := ⟨g_318, g_320, g_0, g_67, g_321, ⟨by decide +kernel, by decide +kernel, by decide +kernel⟩⟩
theorem k_X9_190 : lkS RX9 190 yX9_signOf cX9_signOf 1 (some .int) 1 := ⟨g_893, g_894, g_67, g_895, ⟨by decide +kernel, by decide +kernel, by decide +kernel⟩⟩
theorem k_X9_196 : lkV RX9 RX7 196 yX7_faultOfNewTank cX7_faultOfNewTank 2 (some .int) 1 := ⟨g_903, g_904, g_905, g_71, g_906, ⟨by decide +kernel, by decide +kernel, by decide +kernel⟩⟩
theorem k_X9_199 : lkV RX9 RX7 199 yX7_putTank cX7_putTank 3 (some .int) 1 := ⟨g_908, g_909, g_910, g_71, g_911, ⟨by decide +kernel, by decide +kernel, by decide +kernel⟩⟩
theorem k_X9_202 : lkV RX9 RX7 202 yX7_faultOfNewTuning cX7_faultOfNewTuning 3 (some .int) 2 := ⟨g_919, g_920, g_921, g_71, g_922, ⟨by decide +kernel, by decide +kernel, by decide +kernel⟩⟩
theorem k_X9_205 : lkV RX9 RX7 205 yX7_tune cX7_tune 4 (some .int) 2 := ⟨g_927, g_928, g_929, g_71, g_930, ⟨by decide +kernel, by decide +kernel, by decide +kernel⟩⟩
theorem k_X9_208 : lkV RX9 RX9 208 yX9_pourSong cX9_pourSong 8 (some .int) 3 := ⟨g_459, g_461, g_8, g_67, g_462, ⟨by decide +kernel, by decide +kernel, by decide +kernel⟩⟩
theorem k_X9_212 : lkV RX9 RX7 212 yX7_faultOfDraining cX7_faultOfDraining 3 (some .int) 2 := ⟨g_945, g_946, g_947, g_71, g_948, ⟨by decide +kernel, by decide +kernel, by decide +kernel⟩⟩
theorem k_X9_215 : lkV RX9 RX7 215 yX7_takeFrames cX7_takeFrames 6 (some .int) 2 := ⟨g_949, g_950, g_951, g_71, g_952, ⟨by decide +kernel, by decide +kernel, by decide +kernel⟩⟩
theorem k_X9_219 : lkV RX9 RX7 219 yX7_faultOfTank cX7_faultOfTank 2 (some .int) 1 := ⟨g_965, g_924, g_925, g_71, g_926, ⟨by decide +kernel, by decide +kernel, by decide +kernel⟩⟩
theorem k_X9_222 : lkV RX9 RX7 222 yX7_capacityOf cX7_capacityOf 2 (some .int) 1 := ⟨g_504, g_484, g_485, g_71, g_486, ⟨by decide +kernel, by decide +kernel, by decide +kernel⟩⟩
theorem k_X9_225 : lkV RX9 RX7 225 yX7_tuningOf cX7_tuningOf 2 (some .int) 1 := ⟨g_511, g_488, g_489, g_71, g_490, ⟨by decide +kernel, by decide +kernel, by decide +kernel⟩⟩
theorem k_X9_228 : lkV RX9 RX7 228 yX7_levelOf cX7_levelOf 2 (some .int) 1 := ⟨g_505, g_479, g_480, g_71, g_481, ⟨by decide +kernel, by decide +kernel, by decide +kernel⟩⟩
theorem k_X9_231 : lkV RX9 RX7 231 yX7_faultOfFrame cX7_faultOfFrame 3 (some .int) 2 := ⟨g_987, g_988, g_989, g_71, g_990, ⟨by decide +kernel, by decide +kernel, by decide +kernel⟩⟩
theorem k_X9_234 : lkV RX9 RX7 234 yX7_frameAt cX7_frameAt 3 (some .int) 2 := ⟨g_991, g_954, g_955, g_71, g_956, ⟨by decide +kernel, by decide +kernel, by decide +kernel⟩⟩
theorem k_X9_237 : lkV RX9 RX5 237 yX5_framesOf cX5_framesOf 2 (some .int) 1 := ⟨g_454, g_455, g_456, g_70, g_457, ⟨by decide +kernel, by decide +kernel, by decide +kernel⟩⟩
theorem k_X9_240 : lkV RX9 RX9 240 yX9_dropsOnCopy cX9_dropsOnCopy 2 (some .int) 1 := ⟨g_440, g_442, g_7, g_67, g_443, ⟨by decide +kernel, by decide +kernel, by decide +kernel⟩⟩
theorem k_X9_243 : lkV RX9 RX9 243 yX9_dropsFromLevels cX9_dropsFromLevels 7 (some .int) 1 := ⟨g_500, g_502, g_12, g_67, g_503, ⟨by decide +kernel, by decide +kernel, by decide +kernel⟩⟩
theorem k_X9_246 : lkV RX9 RX7 246 yX7_tankBehind cX7_tankBehind 3 (some .int) 1 := ⟨g_1020, g_1021, g_1022, g_71, g_1023, ⟨by decide +kernel, by decide +kernel, by decide +kernel⟩⟩
theorem k_X9_260 : lkV RX9 RX1 260 yX1_faultOfCharacter cX1_faultOfCharacter 2 (some .int) 1 := ⟨g_1040, g_1041, g_1042, g_74, g_1043, ⟨by decide +kernel, by decide +kernel, by decide +kernel⟩⟩
theorem k_X9_264 : lkV RX9 RX1 264 yX1_putCharacter cX1_putCharacter 2 (some .int) 1 := ⟨g_1045, g_1046, g_1047, g_74, g_1048, ⟨by decide +kernel, by decide +kernel, by decide +kernel⟩⟩
theorem k_X9_267 : lkV RX9 RX1 267 yX1_parse cX1_parse 2 (some .boolean) 0 := ⟨g_1057, g_1058, g_1059, g_74, g_1060, ⟨by decide +kernel, by decide +kernel, by decide +kernel⟩⟩
theorem k_X9_271 : lkV RX9 RX1 271 yX1_clear cX1_clear 1 (none) 0 := ⟨g_1141, g_1142, g_1143, g_74, g_1144, ⟨by decide +kernel, by decide +kernel, by decide +kernel⟩⟩
theorem k_X9_282 : lkV RX9 RX6 282 yX6_copyFrom cX6_copyFrom 2 (none) 1 := ⟨g_521, g_522, g_523, g_68, g_524, ⟨by decide +kernel, by decide +kernel, by decide +kernel⟩⟩
theorem k_X9_288 : lkV RX9 RX9 288 yX9_faultOfCommand cX9_faultOfCommand 5 (some .int) 2 := ⟨g_1146, g_1148, g_26, g_67, g_1149, ⟨by decide +kernel, by decide +kernel, by decide +kernel⟩⟩
theorem k_X9_297 : lkV RX9 RX9 297 yX9_carryOut cX9_carryOut 5 (none) 2 := ⟨g_1159, g_1161, g_27, g_67, g_1162, ⟨by decide +kernel, by decide +kernel, by decide +kernel⟩⟩
theorem k_X9_304 : lkV RX9 RX3 304 yX3_clear cX3_clear 1 (none) 0 := ⟨g_398, g_399, g_400, g_75, g_401, ⟨by decide +kernel, by decide +kernel, by decide +kernel⟩⟩
theorem k_X9_305 : lkV RX9 RX3 305 yX3_putSign cX3_putSign 2 (none) 1 := ⟨g_402, g_403, g_404, g_75, g_405, ⟨by decide +kernel, by decide +kernel, by decide +kernel⟩⟩
theorem k_X9_308 : lkV RX9 RX3 308 yX3_putNumber cX3_putNumber 3 (none) 1 := ⟨g_409, g_410, g_411, g_75, g_412, ⟨by decide +kernel, by decide +kernel, by decide +kernel⟩⟩
theorem k_X9_319 : lkV RX9 RX3 319 yX3_signAt cX3_signAt 2 (some .int) 1 := ⟨g_1194, g_1195, g_1196, g_75, g_1197, ⟨by decide +kernel, by decide +kernel, by decide +kernel⟩⟩
theorem k_X9_327 : lkV RX9 RX7 327 yX7_sumOfCapacities cX7_sumOfCapacities 3 (some .int) 0 := ⟨g_1230, g_1231, g_1232, g_71, g_1233, ⟨by decide +kernel, by decide +kernel, by decide +kernel⟩⟩
theorem k_X9_333 : lkV RX9 RX7 333 yX7_sumOfLevels cX7_sumOfLevels 3 (some .int) 0 := ⟨g_513, g_514, g_515, g_71, g_516, ⟨by decide +kernel, by decide +kernel, by decide +kernel⟩⟩
theorem k_X9_336 : lkV RX9 RX9 336 yX9_bothWaysAgree cX9_bothWaysAgree 4 (some .boolean) 1 := ⟨g_419, g_421, g_4, g_67, g_422, ⟨by decide +kernel, by decide +kernel, by decide +kernel⟩⟩
theorem k_X9_343 : lkV RX9 RX2 343 yX2_popInto cX2_popInto 2 (none) 1 := ⟨g_1243, g_1244, g_1245, g_72, g_1246, ⟨by decide +kernel, by decide +kernel, by decide +kernel⟩⟩
theorem k_X9_348 : lkV RX9 RX2 348 yX2_clear cX2_clear 1 (none) 0 := ⟨g_1255, g_1256, g_1257, g_72, g_1258, ⟨by decide +kernel, by decide +kernel, by decide +kernel⟩⟩
theorem k_X9_363 : lkV RX9 RX4 363 yX4_send cX4_send 7 (none) 3 := ⟨g_333, g_334, g_335, g_73, g_336, ⟨by decide +kernel, by decide +kernel, by decide +kernel⟩⟩
theorem k_X9_367 : lkV RX9 RX4 367 yX4_loudnessOf cX4_loudnessOf 7 (some .int) 2 := ⟨g_463, g_464, g_465, g_73, g_466, ⟨by decide +kernel, by decide +kernel, by decide +kernel⟩⟩
theorem k_X9_370 : lkV RX9 RX7 370 yX7_store cX7_store 4 (some .boolean) 1 := ⟨g_470, g_471, g_472, g_71, g_473, ⟨by decide +kernel, by decide +kernel, by decide +kernel⟩⟩
theorem k_X9_373 : lkV RX9 RX7 373 yX7_copyFrom cX7_copyFrom 2 (none) 1 := ⟨g_444, g_445, g_446, g_71, g_447, ⟨by decide +kernel, by decide +kernel, by decide +kernel⟩⟩
theorem k_X9_376 : lkS RX9 376 yX9_write cX9_write 3 (none) 3 := ⟨g_506, g_372, g_67, g_373, ⟨by decide +kernel, by decide +kernel, by decide +kernel⟩⟩
theorem k_X9_380 : lkV RX9 RX9 380 yX9_roomiestFor cX9_roomiestFor 5 (some .int) 1 := ⟨g_507, g_509, g_13, g_67, g_510, ⟨by decide +kernel, by decide +kernel, by decide +kernel⟩⟩
theorem k_X9_383 : lkS RX9 383 yX9_read cX9_read 2 (some .int) 2 := ⟨g_512, g_331, g_67, g_332, ⟨by decide +kernel, by decide +kernel, by decide +kernel⟩⟩
theorem k_X9_387 : lkV RX9 RX1 387 yX1_numberAt cX1_numberAt 3 (some .int) 2 := ⟨g_1150, g_1151, g_1152, g_74, g_1153, ⟨by decide +kernel, by decide +kernel, by decide +kernel⟩⟩
theorem k_X9_390 : lkV RX9 RX1 390 yX1_signAt cX1_signAt 2 (some .int) 1 := ⟨g_1154, g_1155, g_1156, g_74, g_1157, ⟨by decide +kernel, by decide +kernel, by decide +kernel⟩⟩
