/-! the model: rows on zero, and more pure words -/
section RW8
variable {p : Program} {l : Launch} {e : Env} {R : Room} {s : State} {m : MethodId} {args : Array Value} {below : List Frame} {meth : Method} {c : Code} {H : Heap} {locs : List Loc} {cells slots : Nat} {Q : State → Prop}
variable {cc : ByteArray} {nL pc : Nat} {own : String} {ls : Array Slot} {rest : List Value} {a tgt : Nat} {off : Int}
theorem nI_z {a : Nat} (ha : a < 2 ^ 31) : nI a = 0 ↔ a = 0 := by
  constructor
  · intro h
    rcases Nat.eq_zero_or_pos a with e | e
    · exact e
    · exact absurd h (nI_ne0 e ha)
  · intro h
    rw [h, nI_0]
theorem nI_lez {a : Nat} (ha : a < 2 ^ 31) : nI a ≤ 0 ↔ a = 0 := by
  constructor
  · intro h
    rcases Nat.eq_zero_or_pos a with e | e
    · exact e
    · exact absurd h (nI_nle e ha)
  · intro h
    rw [h]
    decide
theorem n_ifeq (S : CallFix p m c cc nL s args GT own) (ha : a < 2 ^ 31) (d : decode cc pc = .ok (.ifCond .eq off, 3)) (ht : (pc : Int) + off = (tgt : Int)) (k1 : a = 0 → W p l e R s m args below meth c H locs cells slots Q (F0 m tgt ls rest)) (k2 : ¬ a = 0 → W p l e R s m args below meth c H locs cells slots Q (F0 m (pc + 3) ls rest)) : W p l e R s m args below meth c H locs cells slots Q (F0 m pc ls (.int (nI a) :: rest)) :=
  lv_if_eq S.1 S.2.1 d ht (fun h => k1 ((nI_z ha).mp h)) (fun h => k2 (fun z => h ((nI_z ha).mpr z)))
theorem n_ifne (S : CallFix p m c cc nL s args GT own) (ha : a < 2 ^ 31) (d : decode cc pc = .ok (.ifCond .ne off, 3)) (ht : (pc : Int) + off = (tgt : Int)) (k1 : ¬ a = 0 → W p l e R s m args below meth c H locs cells slots Q (F0 m tgt ls rest)) (k2 : a = 0 → W p l e R s m args below meth c H locs cells slots Q (F0 m (pc + 3) ls rest)) : W p l e R s m args below meth c H locs cells slots Q (F0 m pc ls (.int (nI a) :: rest)) :=
  lv_if_ne S.1 S.2.1 d ht (fun h => k1 (fun z => h ((nI_z ha).mpr z))) (fun h => k2 ((nI_z ha).mp h))
theorem n_ifle (S : CallFix p m c cc nL s args GT own) (ha : a < 2 ^ 31) (d : decode cc pc = .ok (.ifCond .le off, 3)) (ht : (pc : Int) + off = (tgt : Int)) (k1 : a = 0 → W p l e R s m args below meth c H locs cells slots Q (F0 m tgt ls rest)) (k2 : ¬ a = 0 → W p l e R s m args below meth c H locs cells slots Q (F0 m (pc + 3) ls rest)) : W p l e R s m args below meth c H locs cells slots Q (F0 m pc ls (.int (nI a) :: rest)) :=
  lv_if_le S.1 S.2.1 d ht (fun h => k1 ((nI_lez ha).mp h)) (fun h => k2 (fun z => h ((nI_lez ha).mpr z)))
theorem n_ifge (S : CallFix p m c cc nL s args GT own) (ha : a < 2 ^ 31) (d : decode cc pc = .ok (.ifCond .ge off, 3)) (ht : (pc : Int) + off = (tgt : Int)) (k1 : W p l e R s m args below meth c H locs cells slots Q (F0 m tgt ls rest)) : W p l e R s m args below meth c H locs cells slots Q (F0 m pc ls (.int (nI a) :: rest)) :=
  lv_if_ge S.1 S.2.1 d ht (fun h => k1) (fun h => absurd (nI_pos' ha) h)
theorem n_iflt (S : CallFix p m c cc nL s args GT own) (ha : a < 2 ^ 31) (d : decode cc pc = .ok (.ifCond .lt off, 3)) (ht : (pc : Int) + off = (tgt : Int)) (k1 : W p l e R s m args below meth c H locs cells slots Q (F0 m (pc + 3) ls rest)) : W p l e R s m args below meth c H locs cells slots Q (F0 m pc ls (.int (nI a) :: rest)) :=
  lv_if_lt S.1 S.2.1 d ht (fun h => absurd h (nI_pos ha)) (fun h => k1)
end RW8
def dsN (a b : Nat) : Nat := (if a < b then b - a else a - b) - 1
def noteV (v : Nat → Int32) (q n j P : Nat) (am : Int32) (k : Nat) : Nat → Int32 := upd (upd (upd (ntR v (77 + 160 * q + n) P am k) (717 + 160 * q + j) (nI k)) (21 + q) (nI (j + 1))) (25 + q) (nI (n + k))
def zrR (f : Nat → Int32) (s0 e0 : Nat) : Nat → Int32 := fun k => if s0 ≤ k ∧ k < e0 then nI 0 else f k
theorem zrR_0 (f : Nat → Int32) (s0 : Nat) : zrR f s0 s0 = f := by
  funext k
  simp only [zrR]
  split
  · omega
  · rfl
theorem zrR_step (f : Nat → Int32) {s0 e0 : Nat} (h : s0 ≤ e0) : upd (zrR f s0 e0) e0 (nI 0) = zrR f s0 (e0 + 1) := by
  funext k
  by_cases hk : k = e0
  · subst hk
    rw [upd_s]
    simp only [zrR]
    rw [if_pos (by omega)]
  · rw [upd_o hk]
    simp only [zrR]
    by_cases h2 : s0 ≤ k ∧ k < e0
    · rw [if_pos h2, if_pos (by omega)]
    · rw [if_neg h2, if_neg (by omega)]
def untV (v : Nat → Int32) (q c n j : Nat) : Nat → Int32 := zrR (upd (upd (upd v (21 + q) (nI (c - 1))) (25 + q) (nI (n - j))) (717 + 160 * q + (c - 1)) (nI 0)) (77 + 160 * q + (n - j)) (77 + 160 * q + 160)
