/-! THE START: a new class's world, a new model's, and that they say the same -/
def Sub (w1 w2 : va_W) : Prop := ∃ ix : Nat → Nat, (∀ k q, w2[k]? = some q → w1[ix k]? = some q) ∧ ∀ i j, i < w2.length → j < w2.length → ix i = ix j → i = j
theorem wW_sub {Z : ZT} {w1 w2 : va_W} {A0 : Nat → Prop} {s : State} {H : Heap} {locs : List Loc} (h : wW Z w1 A0 s H locs) (hs : Sub w1 w2) : wW Z w2 A0 s H locs := by
  obtain ⟨ix, e, inj⟩ := hs
  refine ⟨fun k q hk => h.1 _ q (e k q hk), ⟨fun i j p q hi hj he => ?_, fun k q hk => h.2.1.2 _ q (e k q hk)⟩, h.2.2⟩
  exact inj i j (List.getElem?_eq_some_iff.mp hi).1 (List.getElem?_eq_some_iff.mp hj).1 (h.2.1.1 _ _ p q (e i p hi) (e j q hj) he)
theorem Sub_app {w1 w2 : va_W} (h : Sub w1 w2) (r : va_W) : Sub (w1 ++ r) (w2 ++ r) := by
  obtain ⟨ix, e, inj⟩ := h
  have hlt : ∀ k, k < w2.length → ix k < w1.length := fun k hk => (List.getElem?_eq_some_iff.mp (e k _ (List.getElem?_eq_getElem hk))).1
  refine ⟨fun k => if k < w2.length then ix k else w1.length + (k - w2.length), fun k q hk => ?_, fun i j hi hj he => ?_⟩
  · by_cases h : k < w2.length
    · rw [List.getElem?_append_left h] at hk
      simp only [if_pos h]
      rw [List.getElem?_append_left (hlt k h)]
      exact e k q hk
    · rw [List.getElem?_append_right (by omega)] at hk
      simp only [if_neg h]
      rw [List.getElem?_append_right (by omega), Nat.add_sub_cancel_left]
      exact hk
  · by_cases h1 : i < w2.length <;> by_cases h2 : j < w2.length
    · simp only [if_pos h1, if_pos h2] at he
      exact inj i j h1 h2 he
    · simp only [if_pos h1, if_neg h2] at he
      have := hlt i h1
      omega
    · simp only [if_neg h1, if_pos h2] at he
      have := hlt j h2
      omega
    · simp only [if_neg h1, if_neg h2] at he
      omega
theorem Sub_cwl {α : Type} {ws : va_W} {L : List α} {A : α → Nat} {E : α → va_E} (ix : α → Nat) (hx : ∀ x ∈ L, ws[ix x]? = some (A x, E x)) (hi : ∀ x ∈ L, ∀ y ∈ L, ix x = ix y → x = y) (hn : L.Nodup) : Sub ws (cwl L A E) := by
  refine ⟨fun k => match L[k]? with | some x => ix x | none => 0, fun k q hk => ?_, fun i j h1 h2 he => ?_⟩
  · obtain ⟨x, hx1, rfl⟩ := cwl_of hk
    simp only [hx1]
    exact hx x (List.mem_of_getElem? hx1)
  · rw [cwl_len] at h1 h2
    simp only [List.getElem?_eq_getElem h1, List.getElem?_eq_getElem h2] at he
    have e2 := hi _ (List.getElem_mem h1) _ (List.getElem_mem h2) he
    exact (List.getElem?_inj h1 hn).mp (by rw [List.getElem?_eq_getElem h1, List.getElem?_eq_getElem h2, e2])
def ixC (x : Nat × Nat) : Nat := if x.1 = 11 then x.2 + 40 else if x.2 < 14 then 1 + 14 * x.1 + x.2 else if x.2 = 14 then 0 else if x.2 ≤ 20 then 28 + x.2 else 33 + x.2
def rL (h : Nat) (a9 a20 a31 : Nat → Nat) (qs : List Nat) : List Nat := h :: ((List.range 14).map a9 ++ ((List.range 14).map a20 ++ ((List.range 14).map a31 ++ qs)))
def rA (h : Nat) (a9 a20 a31 : Nat → Nat) (qs : List Nat) : Nat × Nat → Nat := fun x => (rL h a9 a20 a31 qs).getD (ixC x) 0
def μR : CM := fun b o => if b = 0 ∧ o = 14 then (fun k => if k = 10 ∨ k = 11 then -1 else nI 0) else (fun _ => nI 0)
def νR : MM := fun i => if i = 0 then (fun k => if k = 2 ∨ k = 3 then -1 else 0) else if i = 11 then (upd (upd (upd (upd (upd (upd (upd (upd (upd (upd (upd (upd (upd (upd (upd (upd (upd (upd (upd (upd (upd (upd (upd (upd (upd (upd (upd (upd (upd (upd (upd (upd (upd (upd (upd (upd (upd (upd (upd (upd (upd (upd (upd (upd (upd (upd (upd (upd (upd (upd (upd (upd (upd (upd (upd (upd (upd (upd (upd (upd (upd (upd (upd (fun _ => nI 0) 0 (nI 103)) 1 (nI 97)) 2 (nI 105)) 3 (nI 110)) 4 (nI 32)) 5 (nI 100)) 6 (nI 101)) 7 (nI 108)) 8 (nI 97)) 9 (nI 121)) 10 (nI 32)) 11 (nI 109)) 12 (nI 101)) 13 (nI 97)) 14 (nI 110)) 15 (nI 32)) 16 (nI 99)) 17 (nI 108)) 18 (nI 105)) 19 (nI 112)) 20 (nI 32)) 21 (nI 102)) 22 (nI 108)) 23 (nI 105)) 24 (nI 112)) 25 (nI 115)) 26 (nI 116)) 27 (nI 101)) 28 (nI 112)) 29 (nI 32)) 30 (nI 114)) 31 (nI 101)) 32 (nI 109)) 33 (nI 111)) 34 (nI 118)) 35 (nI 101)) 36 (nI 32)) 37 (nI 110)) 38 (nI 111)) 39 (nI 116)) 40 (nI 101)) 41 (nI 32)) 42 (nI 116)) 43 (nI 97)) 44 (nI 110)) 45 (nI 107)) 46 (nI 32)) 47 (nI 116)) 48 (nI 117)) 49 (nI 110)) 50 (nI 101)) 51 (nI 32)) 52 (nI 112)) 53 (nI 111)) 54 (nI 117)) 55 (nI 114)) 56 (nI 32)) 57 (nI 100)) 58 (nI 114)) 59 (nI 97)) 60 (nI 105)) 61 (nI 110)) 62 (nI 32)) else if i = 12 then (upd (upd (upd (upd (upd (upd (upd (upd (upd (upd (upd (upd (upd (fun _ => nI 0) 0 (nI 0)) 1 (nI 5)) 2 (nI 11)) 3 (nI 16)) 4 (nI 21)) 5 (nI 25)) 6 (nI 30)) 7 (nI 37)) 8 (nI 42)) 9 (nI 47)) 10 (nI 52)) 11 (nI 57)) 12 (nI 63)) else (fun _ => nI 0)
def idsL : List (Nat × Nat) := [(0, 0), (0, 1), (0, 2), (0, 3), (0, 4), (0, 5), (0, 6), (0, 7), (0, 8), (0, 9), (0, 10), (0, 11), (0, 12), (0, 13), (0, 14), (0, 15), (0, 16), (0, 17), (0, 18), (0, 19), (0, 20), (0, 21), (0, 22), (0, 23), (0, 24), (0, 25), (0, 26), (0, 27), (1, 0), (1, 1), (1, 2), (1, 3), (1, 4), (1, 5), (1, 6), (1, 7), (1, 8), (1, 9), (1, 10), (1, 11), (1, 12), (1, 13), (2, 0), (2, 1), (2, 2), (2, 3), (2, 4), (2, 5), (2, 6), (2, 7), (2, 8), (2, 9), (2, 10), (2, 11), (2, 12), (2, 13), (11, 9), (11, 10), (11, 11), (11, 12), (11, 13)]
theorem ids_0 : ids g0 = idsL := by decide +kernel
theorem ixC_inj : ∀ x ∈ idsL, ∀ y ∈ idsL, ixC x = ixC y → x = y := by decide +kernel
set_option maxHeartbeats 4000000 in
set_option maxRecDepth 100000 in
theorem root_sub (Z : ZT) (h : Nat) (a9 a20 a31 : Nat → Nat) (q38 q38_q7 q49 q49_q7 q49_q16 q49_q25 q60 q60_q6 q60_q13 q60_q20 q60_q28 q72 q78 q78_q7 q78_q20 q78_q28 q89 q89_q7 : Nat) : Sub ((((([(h, .inr (10, [.ref (a9 0), .ref (a20 0), .ref (a31 0), .ref q38, .ref q49, .ref q60, .ref q72, .ref q78, .ref q89, .int (nI 0), .int (-1), .int (-1)]))] ++ SB Z a9) ++ SB Z a20) ++ SB Z a31) ++ [(q38, .inr (4, [.ref q38_q7, .int (nI 0), .int (nI 0)])), (q38_q7, .inl (zR Z, 8, .inr (.inr (.inr (.inr (fun _ => none)))))), (q49, .inr (6, [.ref q49_q7, .ref q49_q16, .ref q49_q25])), (q49_q7, .inl (zI Z, 64, .inl (fun _ => nI 0))), (q49_q16, .inl (zI Z, 160, .inl (fun _ => nI 0))), (q49_q25, .inl (zI Z, 160, .inl (fun _ => nI 0))), (q60, .inr (9, [.ref q60_q6, .ref q60_q13, .ref q60_q20, .ref q60_q28, .int (nI 0), .int (nI 0), .int (nI 0), .int (nI 0)])), (q60_q6, .inl (zI Z, 4, .inl (fun _ => nI 0))), (q60_q13, .inl (zI Z, 4, .inl (fun _ => nI 0))), (q60_q20, .inl (zI Z, 4, .inl (fun _ => nI 0))), (q60_q28, .inl (zI Z, 36, .inl (fun _ => nI 0))), (q72, .inl (zI Z, 4, .inl (fun _ => nI 0))), (q78, .inr (3, [.ref q78_q7, .int (nI 0), .ref q78_q20, .ref q78_q28, .int (nI 0), .int (nI 0)])), (q78_q7, .inl (zI Z, 60, .inl (fun _ => nI 0))), (q78_q20, .inl (zI Z, 12, .inl (fun _ => nI 0))), (q78_q28, .inl (zI Z, 48, .inl (fun _ => nI 0))), (q89, .inr (5, [.ref q89_q7, .int (nI 0)])), (q89_q7, .inl (zI Z, 80, .inl (fun _ => nI 0)))])) (cW Z (g0, rA h a9 a20 a31 [q38, q38_q7, q49, q49_q7, q49_q16, q49_q25, q60, q60_q6, q60_q13, q60_q20, q60_q28, q72, q78, q78_q7, q78_q20, q78_q28, q89, q89_q7], μR)) := by
  have hn := ids_nd g0
  show Sub _ (cwl (ids g0) _ _)
  rw [ids_0] at hn ⊢
  refine Sub_cwl ixC (fun x hx => ?_) ixC_inj hn
  simp only [idsL, List.mem_cons, List.not_mem_nil, or_false] at hx
  rcases hx with rfl | rfl | rfl | rfl | rfl | rfl | rfl | rfl | rfl | rfl | rfl | rfl | rfl | rfl | rfl | rfl | rfl | rfl | rfl | rfl | rfl | rfl | rfl | rfl | rfl | rfl | rfl | rfl | rfl | rfl | rfl | rfl | rfl | rfl | rfl | rfl | rfl | rfl | rfl | rfl | rfl | rfl | rfl | rfl | rfl | rfl | rfl | rfl | rfl | rfl | rfl | rfl | rfl | rfl | rfl | rfl | rfl | rfl | rfl | rfl | rfl <;> rfl
set_option maxHeartbeats 4000000 in
set_option maxRecDepth 100000 in
theorem model_eq (Z : ZT) (h q18 q27 q36 q45 q54 q63 q72 q80 q88 q96 q104 q484 : Nat) : ([(h, .inr (11, [.int 0, .int 0, .int (-1), .int (-1), .int 0, .ref q18, .ref q27, .ref q36, .ref q45, .ref q54, .ref q63, .ref q72, .ref q80, .ref q88, .ref q96, .ref q104, .ref q484, .int 0, .int 0, .int 0, .int 0, .int 0, .int 0])), (q18, .inl (zI Z, 1357, .inl (fun _ => nI 0))), (q27, .inl (zI Z, 1357, .inl (fun _ => nI 0))), (q36, .inl (zI Z, 1357, .inl (fun _ => nI 0))), (q45, .inl (zI Z, 1357, .inl (fun _ => nI 0))), (q54, .inl (zI Z, 10856, .inl (fun _ => nI 0))), (q63, .inl (zI Z, 160, .inl (fun _ => nI 0))), (q72, .inl (zI Z, 160, .inl (fun _ => nI 0))), (q80, .inl (zI Z, 60, .inl (fun _ => nI 0))), (q88, .inl (zI Z, 80, .inl (fun _ => nI 0))), (q96, .inl (zI Z, 12, .inl (fun _ => nI 0))), (q104, .inl (zI Z, 63, .inl (upd (upd (upd (upd (upd (upd (upd (upd (upd (upd (upd (upd (upd (upd (upd (upd (upd (upd (upd (upd (upd (upd (upd (upd (upd (upd (upd (upd (upd (upd (upd (upd (upd (upd (upd (upd (upd (upd (upd (upd (upd (upd (upd (upd (upd (upd (upd (upd (upd (upd (upd (upd (upd (upd (upd (upd (upd (upd (upd (upd (upd (upd (upd (fun _ => nI 0) 0 (nI 103)) 1 (nI 97)) 2 (nI 105)) 3 (nI 110)) 4 (nI 32)) 5 (nI 100)) 6 (nI 101)) 7 (nI 108)) 8 (nI 97)) 9 (nI 121)) 10 (nI 32)) 11 (nI 109)) 12 (nI 101)) 13 (nI 97)) 14 (nI 110)) 15 (nI 32)) 16 (nI 99)) 17 (nI 108)) 18 (nI 105)) 19 (nI 112)) 20 (nI 32)) 21 (nI 102)) 22 (nI 108)) 23 (nI 105)) 24 (nI 112)) 25 (nI 115)) 26 (nI 116)) 27 (nI 101)) 28 (nI 112)) 29 (nI 32)) 30 (nI 114)) 31 (nI 101)) 32 (nI 109)) 33 (nI 111)) 34 (nI 118)) 35 (nI 101)) 36 (nI 32)) 37 (nI 110)) 38 (nI 111)) 39 (nI 116)) 40 (nI 101)) 41 (nI 32)) 42 (nI 116)) 43 (nI 97)) 44 (nI 110)) 45 (nI 107)) 46 (nI 32)) 47 (nI 116)) 48 (nI 117)) 49 (nI 110)) 50 (nI 101)) 51 (nI 32)) 52 (nI 112)) 53 (nI 111)) 54 (nI 117)) 55 (nI 114)) 56 (nI 32)) 57 (nI 100)) 58 (nI 114)) 59 (nI 97)) 60 (nI 105)) 61 (nI 110)) 62 (nI 32)))), (q484, .inl (zI Z, 13, .inl (upd (upd (upd (upd (upd (upd (upd (upd (upd (upd (upd (upd (upd (fun _ => nI 0) 0 (nI 0)) 1 (nI 5)) 2 (nI 11)) 3 (nI 16)) 4 (nI 21)) 5 (nI 25)) 6 (nI 30)) 7 (nI 37)) 8 (nI 42)) 9 (nI 47)) 10 (nI 52)) 11 (nI 57)) 12 (nI 63))))] : va_W) = mW Z (fun i => ([h, q18, q27, q36, q45, q54, q63, q72, q80, q88, q96, q104, q484] : List Nat).getD i 0) νR := rfl
theorem V0 : nfV (fun _ => nI 0) = 0 ∧ ntV (fun _ => nI 0) = 0 ∧ (∀ q, lnV (fun _ => nI 0) q = 0) ∧ ∀ q, nnV (fun _ => nI 0) q = 0 := ⟨by decide +kernel, by decide +kernel, fun _ => by show (nI 0).toNatClampNeg = 0; decide +kernel, fun _ => by show (nI 0).toNatClampNeg = 0; decide +kernel⟩
theorem CR_0 (A : Nat × Nat → Nat) : CR (g0, A, μR) νR := by
  obtain ⟨v1, v2, v3, v4⟩ := V0
  have e1 : νR 1 = fun _ => nI 0 := rfl
  refine ⟨by rw [e1]; exact VG_0, ?_, ⟨0, 0, by decide, by decide, rfl, rfl, by decide +kernel, fun i hi => absurd hi (Nat.not_lt_zero _)⟩, ⟨0, by decide +kernel, by decide, rfl, fun z => absurd z (by decide)⟩, ⟨0, fun _ => 0, by decide +kernel, rfl, by decide, fun j hj => absurd hj (Nat.not_lt_zero _)⟩, ⟨0, by decide +kernel, rfl, by decide, fun j hj => absurd hj (Nat.not_lt_zero _)⟩, ⟨show μR 0 14 10 = νR 0 2 from by decide +kernel, show μR 0 14 11 = νR 0 3 from by decide +kernel, Or.inl (by decide +kernel), Or.inl (by decide +kernel)⟩, ⟨by decide +kernel, by decide +kernel⟩⟩
  rw [e1]
  refine ⟨⟨rfl, fun f hf => ?_⟩, fun q hq => ⟨rfl, rfl, fun i hi => ?_, fun i hi => ?_⟩, ⟨rfl, rfl, rfl, rfl⟩, fun t ht => ?_⟩
  · rw [v1] at hf; exact absurd hf (Nat.not_lt_zero _)
  · rw [v3] at hi; exact absurd hi (Nat.not_lt_zero _)
  · rw [v4] at hi; exact absurd hi (Nat.not_lt_zero _)
  · rw [v2] at ht; exact absurd ht (Nat.not_lt_zero _)
