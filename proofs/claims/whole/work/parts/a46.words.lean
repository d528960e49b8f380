/-! THE STATICS OUT OF THE START -/
def FLA : List Cond := flatC (Jvm.Cond.and given_1 narrow_1)
section ST2
variable {args : Array Value} {s : State} {A : Nat → Prop}
theorem SO_of {t : Term} {n : Nat} {f : Nat → Int32} (hn : n < 2 ^ 31) (hex : (Cond.exactly t "java/lang/String").before args s = true) (hco : (Cond.eq (.field t "java/lang/String" "coder" "B") (.int 0)).before args s = true) (har : (Cond.arrayOf (.field t "java/lang/String" "value" "[B") .byte).before args s = true) (hle : (Cond.eq (.length (.field t "java/lang/String" "value" "[B")) (.int (Int32.ofNat n))).before args s = true)
    (hel : ∀ j : Nat, j < n → (Cond.eq (.elem (.field t "java/lang/String" "value" "[B") (.int (Int32.ofNat j))) (.int (f j))).before args s = true) (hA : ∀ a : Nat, a < s.heap.size → ¬ A a) : ∃ k kv, t.eval args s none [] s = some (.ref k) ∧ SO k kv n f A s s.heap := by
  obtain ⟨a, c, cA, kA, q1, q2, q3, q4, q5, q6, -⟩ := Cond.exactly_spec (args := args) (first := s) (o := none) (s := s) (idx := []) (t := t) (cls := "java/lang/String") hex
  obtain ⟨kv, ht, hT⟩ := va_Tof (f := fun j => .int (f j)) (A := A) hn har (va_eqt hle) (fun j hj => va_eqt (hel j hj)) hA
  exact ⟨a, kv, q1, ⟨cA, q3, q5, by rw [q6]; exact q2, hA a (Array.getElem?_eq_some_iff.mp q3).1⟩, vk_OFof q1 (va_eqt hco) hA, vk_OFof q1 ht hA, hT⟩
theorem st_k0 (hF : ∀ w ∈ FLA, w.before args s = true) (hA : ∀ a : Nat, a < s.heap.size → ¬ A a) : ∃ k kv, (Term.string "SongRefinery$Word" 71).eval args s none [] s = some (.ref k) ∧ SO k kv (wl 0) (fun i => nI (kc 0 i)) A s s.heap := by
  have hn : wl 0 = 5 := by decide
  refine SO_of (by rw [hn]; decide) (hF _ (List.mem_of_getElem? (i := 667) (by decide +kernel))) (hF _ (List.mem_of_getElem? (i := 668) (by decide +kernel))) (hF _ (List.mem_of_getElem? (i := 669) (by decide +kernel))) (by rw [hn]; exact hF _ (List.mem_of_getElem? (i := 670) (by decide +kernel))) (fun i hi => ?_) hA
  rw [hn] at hi
  rcases (show i = 0 ∨ i = 1 ∨ i = 2 ∨ i = 3 ∨ i = 4 by omega) with rfl | rfl | rfl | rfl | rfl
  · exact hF _ (List.mem_of_getElem? (i := 671) (by decide +kernel))
  · exact hF _ (List.mem_of_getElem? (i := 672) (by decide +kernel))
  · exact hF _ (List.mem_of_getElem? (i := 673) (by decide +kernel))
  · exact hF _ (List.mem_of_getElem? (i := 674) (by decide +kernel))
  · exact hF _ (List.mem_of_getElem? (i := 675) (by decide +kernel))
theorem st_f0 (hF : ∀ w ∈ FLA, w.before args s = true) (hA : ∀ a : Nat, a < s.heap.size → ¬ A a) : ∃ k kv, (Term.string "SongRefinery$Word" 73).eval args s none [] s = some (.ref k) ∧ SO k kv (fmN 0) (fun i => nI (fmC 0 i)) A s s.heap := by
  have hn : fmN 0 = 1 := by decide
  refine SO_of (by rw [hn]; decide) (hF _ (List.mem_of_getElem? (i := 676) (by decide +kernel))) (hF _ (List.mem_of_getElem? (i := 677) (by decide +kernel))) (hF _ (List.mem_of_getElem? (i := 678) (by decide +kernel))) (by rw [hn]; exact hF _ (List.mem_of_getElem? (i := 679) (by decide +kernel))) (fun i hi => ?_) hA
  rw [hn] at hi
  obtain rfl : i = 0 := by omega
  exact hF _ (List.mem_of_getElem? (i := 680) (by decide +kernel))
theorem wo_0 (hF : ∀ w ∈ FLA, w.before args s = true) (hA : ∀ a : Nat, a < s.heap.size → ¬ A a) : ∃ a k kv m mv : Nat, (Term.elem (Term.static "SongRefinery" "WORDS" "[LSongRefinery$Word;") (.int (Int32.ofNat 0))).eval args s none [] s = some (.ref a) ∧ va_OF "SongRefinery$Word" "key" "Ljava/lang/String;" (.ref k) a A s s.heap ∧ va_OF "SongRefinery$Word" "form" "Ljava/lang/String;" (.ref m) a A s s.heap ∧ va_OF "SongRefinery$Word" "sign" "I" (.int (nI (WS 0))) a A s s.heap ∧ SO k kv (wl 0) (fun i => nI (kc 0 i)) A s s.heap ∧ SO m mv (fmN 0) (fun i => nI (fmC 0 i)) A s s.heap := by
  obtain ⟨k, kv, hk, hS⟩ := st_k0 (A := A) hF hA
  obtain ⟨m, mv, hm, hM⟩ := st_f0 (A := A) hF hA
  obtain ⟨a, c, cA, kA, q1, -⟩ := Cond.exactly_spec (args := args) (first := s) (o := none) (s := s) (idx := []) (t := (Term.static "SongRefinery$Word" "GAIN" "LSongRefinery$Word;")) (cls := "SongRefinery$Word") (hF _ (List.mem_of_getElem? (i := 28) (by decide +kernel)))
  exact ⟨a, k, kv, m, mv, va_eqv (hF _ (List.mem_of_getElem? (i := 11) (by decide +kernel))) q1, vk_OFof q1 (va_eqv (hF _ (List.mem_of_getElem? (i := 30) (by decide +kernel))) hk) hA, vk_OFof q1 (va_eqv (hF _ (List.mem_of_getElem? (i := 31) (by decide +kernel))) hm) hA, vk_OFof q1 (va_eqt (z := nI (WS 0)) (hF _ (List.mem_of_getElem? (i := 32) (by decide +kernel)))) hA, hS, hM⟩
theorem st_k1 (hF : ∀ w ∈ FLA, w.before args s = true) (hA : ∀ a : Nat, a < s.heap.size → ¬ A a) : ∃ k kv, (Term.string "SongRefinery$Word" 79).eval args s none [] s = some (.ref k) ∧ SO k kv (wl 1) (fun i => nI (kc 1 i)) A s s.heap := by
  have hn : wl 1 = 6 := by decide
  refine SO_of (by rw [hn]; decide) (hF _ (List.mem_of_getElem? (i := 681) (by decide +kernel))) (hF _ (List.mem_of_getElem? (i := 682) (by decide +kernel))) (hF _ (List.mem_of_getElem? (i := 683) (by decide +kernel))) (by rw [hn]; exact hF _ (List.mem_of_getElem? (i := 684) (by decide +kernel))) (fun i hi => ?_) hA
  rw [hn] at hi
  rcases (show i = 0 ∨ i = 1 ∨ i = 2 ∨ i = 3 ∨ i = 4 ∨ i = 5 by omega) with rfl | rfl | rfl | rfl | rfl | rfl
  · exact hF _ (List.mem_of_getElem? (i := 685) (by decide +kernel))
  · exact hF _ (List.mem_of_getElem? (i := 686) (by decide +kernel))
  · exact hF _ (List.mem_of_getElem? (i := 687) (by decide +kernel))
  · exact hF _ (List.mem_of_getElem? (i := 688) (by decide +kernel))
  · exact hF _ (List.mem_of_getElem? (i := 689) (by decide +kernel))
  · exact hF _ (List.mem_of_getElem? (i := 690) (by decide +kernel))
theorem st_f1 (hF : ∀ w ∈ FLA, w.before args s = true) (hA : ∀ a : Nat, a < s.heap.size → ¬ A a) : ∃ k kv, (Term.string "SongRefinery$Word" 73).eval args s none [] s = some (.ref k) ∧ SO k kv (fmN 1) (fun i => nI (fmC 1 i)) A s s.heap := by
  have hn : fmN 1 = 1 := by decide
  refine SO_of (by rw [hn]; decide) (hF _ (List.mem_of_getElem? (i := 676) (by decide +kernel))) (hF _ (List.mem_of_getElem? (i := 677) (by decide +kernel))) (hF _ (List.mem_of_getElem? (i := 678) (by decide +kernel))) (by rw [hn]; exact hF _ (List.mem_of_getElem? (i := 679) (by decide +kernel))) (fun i hi => ?_) hA
  rw [hn] at hi
  obtain rfl : i = 0 := by omega
  exact hF _ (List.mem_of_getElem? (i := 680) (by decide +kernel))
theorem wo_1 (hF : ∀ w ∈ FLA, w.before args s = true) (hA : ∀ a : Nat, a < s.heap.size → ¬ A a) : ∃ a k kv m mv : Nat, (Term.elem (Term.static "SongRefinery" "WORDS" "[LSongRefinery$Word;") (.int (Int32.ofNat 1))).eval args s none [] s = some (.ref a) ∧ va_OF "SongRefinery$Word" "key" "Ljava/lang/String;" (.ref k) a A s s.heap ∧ va_OF "SongRefinery$Word" "form" "Ljava/lang/String;" (.ref m) a A s s.heap ∧ va_OF "SongRefinery$Word" "sign" "I" (.int (nI (WS 1))) a A s s.heap ∧ SO k kv (wl 1) (fun i => nI (kc 1 i)) A s s.heap ∧ SO m mv (fmN 1) (fun i => nI (fmC 1 i)) A s s.heap := by
  obtain ⟨k, kv, hk, hS⟩ := st_k1 (A := A) hF hA
  obtain ⟨m, mv, hm, hM⟩ := st_f1 (A := A) hF hA
  obtain ⟨a, c, cA, kA, q1, -⟩ := Cond.exactly_spec (args := args) (first := s) (o := none) (s := s) (idx := []) (t := (Term.static "SongRefinery$Word" "DELAY" "LSongRefinery$Word;")) (cls := "SongRefinery$Word") (hF _ (List.mem_of_getElem? (i := 33) (by decide +kernel)))
  exact ⟨a, k, kv, m, mv, va_eqv (hF _ (List.mem_of_getElem? (i := 12) (by decide +kernel))) q1, vk_OFof q1 (va_eqv (hF _ (List.mem_of_getElem? (i := 35) (by decide +kernel))) hk) hA, vk_OFof q1 (va_eqv (hF _ (List.mem_of_getElem? (i := 36) (by decide +kernel))) hm) hA, vk_OFof q1 (va_eqt (z := nI (WS 1)) (hF _ (List.mem_of_getElem? (i := 37) (by decide +kernel)))) hA, hS, hM⟩
theorem st_k2 (hF : ∀ w ∈ FLA, w.before args s = true) (hA : ∀ a : Nat, a < s.heap.size → ¬ A a) : ∃ k kv, (Term.string "SongRefinery$Word" 82).eval args s none [] s = some (.ref k) ∧ SO k kv (wl 2) (fun i => nI (kc 2 i)) A s s.heap := by
  have hn : wl 2 = 5 := by decide
  refine SO_of (by rw [hn]; decide) (hF _ (List.mem_of_getElem? (i := 691) (by decide +kernel))) (hF _ (List.mem_of_getElem? (i := 692) (by decide +kernel))) (hF _ (List.mem_of_getElem? (i := 693) (by decide +kernel))) (by rw [hn]; exact hF _ (List.mem_of_getElem? (i := 694) (by decide +kernel))) (fun i hi => ?_) hA
  rw [hn] at hi
  rcases (show i = 0 ∨ i = 1 ∨ i = 2 ∨ i = 3 ∨ i = 4 by omega) with rfl | rfl | rfl | rfl | rfl
  · exact hF _ (List.mem_of_getElem? (i := 695) (by decide +kernel))
  · exact hF _ (List.mem_of_getElem? (i := 696) (by decide +kernel))
  · exact hF _ (List.mem_of_getElem? (i := 697) (by decide +kernel))
  · exact hF _ (List.mem_of_getElem? (i := 698) (by decide +kernel))
  · exact hF _ (List.mem_of_getElem? (i := 699) (by decide +kernel))
theorem st_f2 (hF : ∀ w ∈ FLA, w.before args s = true) (hA : ∀ a : Nat, a < s.heap.size → ¬ A a) : ∃ k kv, (Term.string "SongRefinery$Word" 73).eval args s none [] s = some (.ref k) ∧ SO k kv (fmN 2) (fun i => nI (fmC 2 i)) A s s.heap := by
  have hn : fmN 2 = 1 := by decide
  refine SO_of (by rw [hn]; decide) (hF _ (List.mem_of_getElem? (i := 676) (by decide +kernel))) (hF _ (List.mem_of_getElem? (i := 677) (by decide +kernel))) (hF _ (List.mem_of_getElem? (i := 678) (by decide +kernel))) (by rw [hn]; exact hF _ (List.mem_of_getElem? (i := 679) (by decide +kernel))) (fun i hi => ?_) hA
  rw [hn] at hi
  obtain rfl : i = 0 := by omega
  exact hF _ (List.mem_of_getElem? (i := 680) (by decide +kernel))
theorem wo_2 (hF : ∀ w ∈ FLA, w.before args s = true) (hA : ∀ a : Nat, a < s.heap.size → ¬ A a) : ∃ a k kv m mv : Nat, (Term.elem (Term.static "SongRefinery" "WORDS" "[LSongRefinery$Word;") (.int (Int32.ofNat 2))).eval args s none [] s = some (.ref a) ∧ va_OF "SongRefinery$Word" "key" "Ljava/lang/String;" (.ref k) a A s s.heap ∧ va_OF "SongRefinery$Word" "form" "Ljava/lang/String;" (.ref m) a A s s.heap ∧ va_OF "SongRefinery$Word" "sign" "I" (.int (nI (WS 2))) a A s s.heap ∧ SO k kv (wl 2) (fun i => nI (kc 2 i)) A s s.heap ∧ SO m mv (fmN 2) (fun i => nI (fmC 2 i)) A s s.heap := by
  obtain ⟨k, kv, hk, hS⟩ := st_k2 (A := A) hF hA
  obtain ⟨m, mv, hm, hM⟩ := st_f2 (A := A) hF hA
  obtain ⟨a, c, cA, kA, q1, -⟩ := Cond.exactly_spec (args := args) (first := s) (o := none) (s := s) (idx := []) (t := (Term.static "SongRefinery$Word" "MEAN" "LSongRefinery$Word;")) (cls := "SongRefinery$Word") (hF _ (List.mem_of_getElem? (i := 39) (by decide +kernel)))
  exact ⟨a, k, kv, m, mv, va_eqv (hF _ (List.mem_of_getElem? (i := 13) (by decide +kernel))) q1, vk_OFof q1 (va_eqv (hF _ (List.mem_of_getElem? (i := 41) (by decide +kernel))) hk) hA, vk_OFof q1 (va_eqv (hF _ (List.mem_of_getElem? (i := 42) (by decide +kernel))) hm) hA, vk_OFof q1 (va_eqt (z := nI (WS 2)) (hF _ (List.mem_of_getElem? (i := 43) (by decide +kernel)))) hA, hS, hM⟩
theorem st_k3 (hF : ∀ w ∈ FLA, w.before args s = true) (hA : ∀ a : Nat, a < s.heap.size → ¬ A a) : ∃ k kv, (Term.string "SongRefinery$Word" 85).eval args s none [] s = some (.ref k) ∧ SO k kv (wl 3) (fun i => nI (kc 3 i)) A s s.heap := by
  have hn : wl 3 = 5 := by decide
  refine SO_of (by rw [hn]; decide) (hF _ (List.mem_of_getElem? (i := 700) (by decide +kernel))) (hF _ (List.mem_of_getElem? (i := 701) (by decide +kernel))) (hF _ (List.mem_of_getElem? (i := 702) (by decide +kernel))) (by rw [hn]; exact hF _ (List.mem_of_getElem? (i := 703) (by decide +kernel))) (fun i hi => ?_) hA
  rw [hn] at hi
  rcases (show i = 0 ∨ i = 1 ∨ i = 2 ∨ i = 3 ∨ i = 4 by omega) with rfl | rfl | rfl | rfl | rfl
  · exact hF _ (List.mem_of_getElem? (i := 704) (by decide +kernel))
  · exact hF _ (List.mem_of_getElem? (i := 705) (by decide +kernel))
  · exact hF _ (List.mem_of_getElem? (i := 706) (by decide +kernel))
  · exact hF _ (List.mem_of_getElem? (i := 707) (by decide +kernel))
  · exact hF _ (List.mem_of_getElem? (i := 708) (by decide +kernel))
theorem st_f3 (hF : ∀ w ∈ FLA, w.before args s = true) (hA : ∀ a : Nat, a < s.heap.size → ¬ A a) : ∃ k kv, (Term.string "SongRefinery$Word" 73).eval args s none [] s = some (.ref k) ∧ SO k kv (fmN 3) (fun i => nI (fmC 3 i)) A s s.heap := by
  have hn : fmN 3 = 1 := by decide
  refine SO_of (by rw [hn]; decide) (hF _ (List.mem_of_getElem? (i := 676) (by decide +kernel))) (hF _ (List.mem_of_getElem? (i := 677) (by decide +kernel))) (hF _ (List.mem_of_getElem? (i := 678) (by decide +kernel))) (by rw [hn]; exact hF _ (List.mem_of_getElem? (i := 679) (by decide +kernel))) (fun i hi => ?_) hA
  rw [hn] at hi
  obtain rfl : i = 0 := by omega
  exact hF _ (List.mem_of_getElem? (i := 680) (by decide +kernel))
theorem wo_3 (hF : ∀ w ∈ FLA, w.before args s = true) (hA : ∀ a : Nat, a < s.heap.size → ¬ A a) : ∃ a k kv m mv : Nat, (Term.elem (Term.static "SongRefinery" "WORDS" "[LSongRefinery$Word;") (.int (Int32.ofNat 3))).eval args s none [] s = some (.ref a) ∧ va_OF "SongRefinery$Word" "key" "Ljava/lang/String;" (.ref k) a A s s.heap ∧ va_OF "SongRefinery$Word" "form" "Ljava/lang/String;" (.ref m) a A s s.heap ∧ va_OF "SongRefinery$Word" "sign" "I" (.int (nI (WS 3))) a A s s.heap ∧ SO k kv (wl 3) (fun i => nI (kc 3 i)) A s s.heap ∧ SO m mv (fmN 3) (fun i => nI (fmC 3 i)) A s s.heap := by
  obtain ⟨k, kv, hk, hS⟩ := st_k3 (A := A) hF hA
  obtain ⟨m, mv, hm, hM⟩ := st_f3 (A := A) hF hA
  obtain ⟨a, c, cA, kA, q1, -⟩ := Cond.exactly_spec (args := args) (first := s) (o := none) (s := s) (idx := []) (t := (Term.static "SongRefinery$Word" "CLIP" "LSongRefinery$Word;")) (cls := "SongRefinery$Word") (hF _ (List.mem_of_getElem? (i := 46) (by decide +kernel)))
  exact ⟨a, k, kv, m, mv, va_eqv (hF _ (List.mem_of_getElem? (i := 14) (by decide +kernel))) q1, vk_OFof q1 (va_eqv (hF _ (List.mem_of_getElem? (i := 48) (by decide +kernel))) hk) hA, vk_OFof q1 (va_eqv (hF _ (List.mem_of_getElem? (i := 49) (by decide +kernel))) hm) hA, vk_OFof q1 (va_eqt (z := nI (WS 3)) (hF _ (List.mem_of_getElem? (i := 50) (by decide +kernel)))) hA, hS, hM⟩
theorem st_k4 (hF : ∀ w ∈ FLA, w.before args s = true) (hA : ∀ a : Nat, a < s.heap.size → ¬ A a) : ∃ k kv, (Term.string "SongRefinery$Word" 88).eval args s none [] s = some (.ref k) ∧ SO k kv (wl 4) (fun i => nI (kc 4 i)) A s s.heap := by
  have hn : wl 4 = 4 := by decide
  refine SO_of (by rw [hn]; decide) (hF _ (List.mem_of_getElem? (i := 709) (by decide +kernel))) (hF _ (List.mem_of_getElem? (i := 710) (by decide +kernel))) (hF _ (List.mem_of_getElem? (i := 711) (by decide +kernel))) (by rw [hn]; exact hF _ (List.mem_of_getElem? (i := 712) (by decide +kernel))) (fun i hi => ?_) hA
  rw [hn] at hi
  rcases (show i = 0 ∨ i = 1 ∨ i = 2 ∨ i = 3 by omega) with rfl | rfl | rfl | rfl
  · exact hF _ (List.mem_of_getElem? (i := 713) (by decide +kernel))
  · exact hF _ (List.mem_of_getElem? (i := 714) (by decide +kernel))
  · exact hF _ (List.mem_of_getElem? (i := 715) (by decide +kernel))
  · exact hF _ (List.mem_of_getElem? (i := 716) (by decide +kernel))
theorem st_f4 (hF : ∀ w ∈ FLA, w.before args s = true) (hA : ∀ a : Nat, a < s.heap.size → ¬ A a) : ∃ k kv, (Term.string "SongRefinery$Word" 90).eval args s none [] s = some (.ref k) ∧ SO k kv (fmN 4) (fun i => nI (fmC 4 i)) A s s.heap := by
  have hn : fmN 4 = 0 := by decide
  refine SO_of (by rw [hn]; decide) (hF _ (List.mem_of_getElem? (i := 717) (by decide +kernel))) (hF _ (List.mem_of_getElem? (i := 718) (by decide +kernel))) (hF _ (List.mem_of_getElem? (i := 719) (by decide +kernel))) (by rw [hn]; exact hF _ (List.mem_of_getElem? (i := 720) (by decide +kernel))) (fun i hi => ?_) hA
  rw [hn] at hi
  exact absurd hi (Nat.not_lt_zero _)
theorem wo_4 (hF : ∀ w ∈ FLA, w.before args s = true) (hA : ∀ a : Nat, a < s.heap.size → ¬ A a) : ∃ a k kv m mv : Nat, (Term.elem (Term.static "SongRefinery" "WORDS" "[LSongRefinery$Word;") (.int (Int32.ofNat 4))).eval args s none [] s = some (.ref a) ∧ va_OF "SongRefinery$Word" "key" "Ljava/lang/String;" (.ref k) a A s s.heap ∧ va_OF "SongRefinery$Word" "form" "Ljava/lang/String;" (.ref m) a A s s.heap ∧ va_OF "SongRefinery$Word" "sign" "I" (.int (nI (WS 4))) a A s s.heap ∧ SO k kv (wl 4) (fun i => nI (kc 4 i)) A s s.heap ∧ SO m mv (fmN 4) (fun i => nI (fmC 4 i)) A s s.heap := by
  obtain ⟨k, kv, hk, hS⟩ := st_k4 (A := A) hF hA
  obtain ⟨m, mv, hm, hM⟩ := st_f4 (A := A) hF hA
  obtain ⟨a, c, cA, kA, q1, -⟩ := Cond.exactly_spec (args := args) (first := s) (o := none) (s := s) (idx := []) (t := (Term.static "SongRefinery$Word" "FLIP" "LSongRefinery$Word;")) (cls := "SongRefinery$Word") (hF _ (List.mem_of_getElem? (i := 54) (by decide +kernel)))
  exact ⟨a, k, kv, m, mv, va_eqv (hF _ (List.mem_of_getElem? (i := 15) (by decide +kernel))) q1, vk_OFof q1 (va_eqv (hF _ (List.mem_of_getElem? (i := 56) (by decide +kernel))) hk) hA, vk_OFof q1 (va_eqv (hF _ (List.mem_of_getElem? (i := 57) (by decide +kernel))) hm) hA, vk_OFof q1 (va_eqt (z := nI (WS 4)) (hF _ (List.mem_of_getElem? (i := 58) (by decide +kernel)))) hA, hS, hM⟩
theorem st_k5 (hF : ∀ w ∈ FLA, w.before args s = true) (hA : ∀ a : Nat, a < s.heap.size → ¬ A a) : ∃ k kv, (Term.string "SongRefinery$Word" 93).eval args s none [] s = some (.ref k) ∧ SO k kv (wl 5) (fun i => nI (kc 5 i)) A s s.heap := by
  have hn : wl 5 = 5 := by decide
  refine SO_of (by rw [hn]; decide) (hF _ (List.mem_of_getElem? (i := 721) (by decide +kernel))) (hF _ (List.mem_of_getElem? (i := 722) (by decide +kernel))) (hF _ (List.mem_of_getElem? (i := 723) (by decide +kernel))) (by rw [hn]; exact hF _ (List.mem_of_getElem? (i := 724) (by decide +kernel))) (fun i hi => ?_) hA
  rw [hn] at hi
  rcases (show i = 0 ∨ i = 1 ∨ i = 2 ∨ i = 3 ∨ i = 4 by omega) with rfl | rfl | rfl | rfl | rfl
  · exact hF _ (List.mem_of_getElem? (i := 725) (by decide +kernel))
  · exact hF _ (List.mem_of_getElem? (i := 726) (by decide +kernel))
  · exact hF _ (List.mem_of_getElem? (i := 727) (by decide +kernel))
  · exact hF _ (List.mem_of_getElem? (i := 728) (by decide +kernel))
  · exact hF _ (List.mem_of_getElem? (i := 729) (by decide +kernel))
theorem st_f5 (hF : ∀ w ∈ FLA, w.before args s = true) (hA : ∀ a : Nat, a < s.heap.size → ¬ A a) : ∃ k kv, (Term.string "SongRefinery$Word" 73).eval args s none [] s = some (.ref k) ∧ SO k kv (fmN 5) (fun i => nI (fmC 5 i)) A s s.heap := by
  have hn : fmN 5 = 1 := by decide
  refine SO_of (by rw [hn]; decide) (hF _ (List.mem_of_getElem? (i := 676) (by decide +kernel))) (hF _ (List.mem_of_getElem? (i := 677) (by decide +kernel))) (hF _ (List.mem_of_getElem? (i := 678) (by decide +kernel))) (by rw [hn]; exact hF _ (List.mem_of_getElem? (i := 679) (by decide +kernel))) (fun i hi => ?_) hA
  rw [hn] at hi
  obtain rfl : i = 0 := by omega
  exact hF _ (List.mem_of_getElem? (i := 680) (by decide +kernel))
theorem wo_5 (hF : ∀ w ∈ FLA, w.before args s = true) (hA : ∀ a : Nat, a < s.heap.size → ¬ A a) : ∃ a k kv m mv : Nat, (Term.elem (Term.static "SongRefinery" "WORDS" "[LSongRefinery$Word;") (.int (Int32.ofNat 5))).eval args s none [] s = some (.ref a) ∧ va_OF "SongRefinery$Word" "key" "Ljava/lang/String;" (.ref k) a A s s.heap ∧ va_OF "SongRefinery$Word" "form" "Ljava/lang/String;" (.ref m) a A s s.heap ∧ va_OF "SongRefinery$Word" "sign" "I" (.int (nI (WS 5))) a A s s.heap ∧ SO k kv (wl 5) (fun i => nI (kc 5 i)) A s s.heap ∧ SO m mv (fmN 5) (fun i => nI (fmC 5 i)) A s s.heap := by
  obtain ⟨k, kv, hk, hS⟩ := st_k5 (A := A) hF hA
  obtain ⟨m, mv, hm, hM⟩ := st_f5 (A := A) hF hA
  obtain ⟨a, c, cA, kA, q1, -⟩ := Cond.exactly_spec (args := args) (first := s) (o := none) (s := s) (idx := []) (t := (Term.static "SongRefinery$Word" "STEP" "LSongRefinery$Word;")) (cls := "SongRefinery$Word") (hF _ (List.mem_of_getElem? (i := 63) (by decide +kernel)))
  exact ⟨a, k, kv, m, mv, va_eqv (hF _ (List.mem_of_getElem? (i := 16) (by decide +kernel))) q1, vk_OFof q1 (va_eqv (hF _ (List.mem_of_getElem? (i := 65) (by decide +kernel))) hk) hA, vk_OFof q1 (va_eqv (hF _ (List.mem_of_getElem? (i := 66) (by decide +kernel))) hm) hA, vk_OFof q1 (va_eqt (z := nI (WS 5)) (hF _ (List.mem_of_getElem? (i := 67) (by decide +kernel)))) hA, hS, hM⟩
theorem st_k6 (hF : ∀ w ∈ FLA, w.before args s = true) (hA : ∀ a : Nat, a < s.heap.size → ¬ A a) : ∃ k kv, (Term.string "SongRefinery$Word" 96).eval args s none [] s = some (.ref k) ∧ SO k kv (wl 6) (fun i => nI (kc 6 i)) A s s.heap := by
  have hn : wl 6 = 7 := by decide
  refine SO_of (by rw [hn]; decide) (hF _ (List.mem_of_getElem? (i := 730) (by decide +kernel))) (hF _ (List.mem_of_getElem? (i := 731) (by decide +kernel))) (hF _ (List.mem_of_getElem? (i := 732) (by decide +kernel))) (by rw [hn]; exact hF _ (List.mem_of_getElem? (i := 733) (by decide +kernel))) (fun i hi => ?_) hA
  rw [hn] at hi
  rcases (show i = 0 ∨ i = 1 ∨ i = 2 ∨ i = 3 ∨ i = 4 ∨ i = 5 ∨ i = 6 by omega) with rfl | rfl | rfl | rfl | rfl | rfl | rfl
  · exact hF _ (List.mem_of_getElem? (i := 734) (by decide +kernel))
  · exact hF _ (List.mem_of_getElem? (i := 735) (by decide +kernel))
  · exact hF _ (List.mem_of_getElem? (i := 736) (by decide +kernel))
  · exact hF _ (List.mem_of_getElem? (i := 737) (by decide +kernel))
  · exact hF _ (List.mem_of_getElem? (i := 738) (by decide +kernel))
  · exact hF _ (List.mem_of_getElem? (i := 739) (by decide +kernel))
  · exact hF _ (List.mem_of_getElem? (i := 740) (by decide +kernel))
theorem st_f6 (hF : ∀ w ∈ FLA, w.before args s = true) (hA : ∀ a : Nat, a < s.heap.size → ¬ A a) : ∃ k kv, (Term.string "SongRefinery$Word" 98).eval args s none [] s = some (.ref k) ∧ SO k kv (fmN 6) (fun i => nI (fmC 6 i)) A s s.heap := by
  have hn : fmN 6 = 1 := by decide
  refine SO_of (by rw [hn]; decide) (hF _ (List.mem_of_getElem? (i := 741) (by decide +kernel))) (hF _ (List.mem_of_getElem? (i := 742) (by decide +kernel))) (hF _ (List.mem_of_getElem? (i := 743) (by decide +kernel))) (by rw [hn]; exact hF _ (List.mem_of_getElem? (i := 744) (by decide +kernel))) (fun i hi => ?_) hA
  rw [hn] at hi
  obtain rfl : i = 0 := by omega
  exact hF _ (List.mem_of_getElem? (i := 745) (by decide +kernel))
theorem wo_6 (hF : ∀ w ∈ FLA, w.before args s = true) (hA : ∀ a : Nat, a < s.heap.size → ¬ A a) : ∃ a k kv m mv : Nat, (Term.elem (Term.static "SongRefinery" "WORDS" "[LSongRefinery$Word;") (.int (Int32.ofNat 6))).eval args s none [] s = some (.ref a) ∧ va_OF "SongRefinery$Word" "key" "Ljava/lang/String;" (.ref k) a A s s.heap ∧ va_OF "SongRefinery$Word" "form" "Ljava/lang/String;" (.ref m) a A s s.heap ∧ va_OF "SongRefinery$Word" "sign" "I" (.int (nI (WS 6))) a A s s.heap ∧ SO k kv (wl 6) (fun i => nI (kc 6 i)) A s s.heap ∧ SO m mv (fmN 6) (fun i => nI (fmC 6 i)) A s s.heap := by
  obtain ⟨k, kv, hk, hS⟩ := st_k6 (A := A) hF hA
  obtain ⟨m, mv, hm, hM⟩ := st_f6 (A := A) hF hA
  obtain ⟨a, c, cA, kA, q1, -⟩ := Cond.exactly_spec (args := args) (first := s) (o := none) (s := s) (idx := []) (t := (Term.static "SongRefinery$Word" "REMOVE" "LSongRefinery$Word;")) (cls := "SongRefinery$Word") (hF _ (List.mem_of_getElem? (i := 73) (by decide +kernel)))
  exact ⟨a, k, kv, m, mv, va_eqv (hF _ (List.mem_of_getElem? (i := 17) (by decide +kernel))) q1, vk_OFof q1 (va_eqv (hF _ (List.mem_of_getElem? (i := 75) (by decide +kernel))) hk) hA, vk_OFof q1 (va_eqv (hF _ (List.mem_of_getElem? (i := 76) (by decide +kernel))) hm) hA, vk_OFof q1 (va_eqt (z := nI (WS 6)) (hF _ (List.mem_of_getElem? (i := 77) (by decide +kernel)))) hA, hS, hM⟩
theorem st_k7 (hF : ∀ w ∈ FLA, w.before args s = true) (hA : ∀ a : Nat, a < s.heap.size → ¬ A a) : ∃ k kv, (Term.string "SongRefinery$Word" 101).eval args s none [] s = some (.ref k) ∧ SO k kv (wl 7) (fun i => nI (kc 7 i)) A s s.heap := by
  have hn : wl 7 = 5 := by decide
  refine SO_of (by rw [hn]; decide) (hF _ (List.mem_of_getElem? (i := 746) (by decide +kernel))) (hF _ (List.mem_of_getElem? (i := 747) (by decide +kernel))) (hF _ (List.mem_of_getElem? (i := 748) (by decide +kernel))) (by rw [hn]; exact hF _ (List.mem_of_getElem? (i := 749) (by decide +kernel))) (fun i hi => ?_) hA
  rw [hn] at hi
  rcases (show i = 0 ∨ i = 1 ∨ i = 2 ∨ i = 3 ∨ i = 4 by omega) with rfl | rfl | rfl | rfl | rfl
  · exact hF _ (List.mem_of_getElem? (i := 750) (by decide +kernel))
  · exact hF _ (List.mem_of_getElem? (i := 751) (by decide +kernel))
  · exact hF _ (List.mem_of_getElem? (i := 752) (by decide +kernel))
  · exact hF _ (List.mem_of_getElem? (i := 753) (by decide +kernel))
  · exact hF _ (List.mem_of_getElem? (i := 754) (by decide +kernel))
theorem st_f7 (hF : ∀ w ∈ FLA, w.before args s = true) (hA : ∀ a : Nat, a < s.heap.size → ¬ A a) : ∃ k kv, (Term.string "SongRefinery$Word" 103).eval args s none [] s = some (.ref k) ∧ SO k kv (fmN 7) (fun i => nI (fmC 7 i)) A s s.heap := by
  have hn : fmN 7 = 4 := by decide
  refine SO_of (by rw [hn]; decide) (hF _ (List.mem_of_getElem? (i := 755) (by decide +kernel))) (hF _ (List.mem_of_getElem? (i := 756) (by decide +kernel))) (hF _ (List.mem_of_getElem? (i := 757) (by decide +kernel))) (by rw [hn]; exact hF _ (List.mem_of_getElem? (i := 758) (by decide +kernel))) (fun i hi => ?_) hA
  rw [hn] at hi
  rcases (show i = 0 ∨ i = 1 ∨ i = 2 ∨ i = 3 by omega) with rfl | rfl | rfl | rfl
  · exact hF _ (List.mem_of_getElem? (i := 759) (by decide +kernel))
  · exact hF _ (List.mem_of_getElem? (i := 760) (by decide +kernel))
  · exact hF _ (List.mem_of_getElem? (i := 761) (by decide +kernel))
  · exact hF _ (List.mem_of_getElem? (i := 762) (by decide +kernel))
theorem wo_7 (hF : ∀ w ∈ FLA, w.before args s = true) (hA : ∀ a : Nat, a < s.heap.size → ¬ A a) : ∃ a k kv m mv : Nat, (Term.elem (Term.static "SongRefinery" "WORDS" "[LSongRefinery$Word;") (.int (Int32.ofNat 7))).eval args s none [] s = some (.ref a) ∧ va_OF "SongRefinery$Word" "key" "Ljava/lang/String;" (.ref k) a A s s.heap ∧ va_OF "SongRefinery$Word" "form" "Ljava/lang/String;" (.ref m) a A s s.heap ∧ va_OF "SongRefinery$Word" "sign" "I" (.int (nI (WS 7))) a A s s.heap ∧ SO k kv (wl 7) (fun i => nI (kc 7 i)) A s s.heap ∧ SO m mv (fmN 7) (fun i => nI (fmC 7 i)) A s s.heap := by
  obtain ⟨k, kv, hk, hS⟩ := st_k7 (A := A) hF hA
  obtain ⟨m, mv, hm, hM⟩ := st_f7 (A := A) hF hA
  obtain ⟨a, c, cA, kA, q1, -⟩ := Cond.exactly_spec (args := args) (first := s) (o := none) (s := s) (idx := []) (t := (Term.static "SongRefinery$Word" "NOTE" "LSongRefinery$Word;")) (cls := "SongRefinery$Word") (hF _ (List.mem_of_getElem? (i := 84) (by decide +kernel)))
  exact ⟨a, k, kv, m, mv, va_eqv (hF _ (List.mem_of_getElem? (i := 18) (by decide +kernel))) q1, vk_OFof q1 (va_eqv (hF _ (List.mem_of_getElem? (i := 86) (by decide +kernel))) hk) hA, vk_OFof q1 (va_eqv (hF _ (List.mem_of_getElem? (i := 87) (by decide +kernel))) hm) hA, vk_OFof q1 (va_eqt (z := nI (WS 7)) (hF _ (List.mem_of_getElem? (i := 88) (by decide +kernel)))) hA, hS, hM⟩
theorem st_k8 (hF : ∀ w ∈ FLA, w.before args s = true) (hA : ∀ a : Nat, a < s.heap.size → ¬ A a) : ∃ k kv, (Term.string "SongRefinery$Word" 106).eval args s none [] s = some (.ref k) ∧ SO k kv (wl 8) (fun i => nI (kc 8 i)) A s s.heap := by
  have hn : wl 8 = 5 := by decide
  refine SO_of (by rw [hn]; decide) (hF _ (List.mem_of_getElem? (i := 763) (by decide +kernel))) (hF _ (List.mem_of_getElem? (i := 764) (by decide +kernel))) (hF _ (List.mem_of_getElem? (i := 765) (by decide +kernel))) (by rw [hn]; exact hF _ (List.mem_of_getElem? (i := 766) (by decide +kernel))) (fun i hi => ?_) hA
  rw [hn] at hi
  rcases (show i = 0 ∨ i = 1 ∨ i = 2 ∨ i = 3 ∨ i = 4 by omega) with rfl | rfl | rfl | rfl | rfl
  · exact hF _ (List.mem_of_getElem? (i := 767) (by decide +kernel))
  · exact hF _ (List.mem_of_getElem? (i := 768) (by decide +kernel))
  · exact hF _ (List.mem_of_getElem? (i := 769) (by decide +kernel))
  · exact hF _ (List.mem_of_getElem? (i := 770) (by decide +kernel))
  · exact hF _ (List.mem_of_getElem? (i := 771) (by decide +kernel))
theorem st_f8 (hF : ∀ w ∈ FLA, w.before args s = true) (hA : ∀ a : Nat, a < s.heap.size → ¬ A a) : ∃ k kv, (Term.string "SongRefinery$Word" 98).eval args s none [] s = some (.ref k) ∧ SO k kv (fmN 8) (fun i => nI (fmC 8 i)) A s s.heap := by
  have hn : fmN 8 = 1 := by decide
  refine SO_of (by rw [hn]; decide) (hF _ (List.mem_of_getElem? (i := 741) (by decide +kernel))) (hF _ (List.mem_of_getElem? (i := 742) (by decide +kernel))) (hF _ (List.mem_of_getElem? (i := 743) (by decide +kernel))) (by rw [hn]; exact hF _ (List.mem_of_getElem? (i := 744) (by decide +kernel))) (fun i hi => ?_) hA
  rw [hn] at hi
  obtain rfl : i = 0 := by omega
  exact hF _ (List.mem_of_getElem? (i := 745) (by decide +kernel))
theorem wo_8 (hF : ∀ w ∈ FLA, w.before args s = true) (hA : ∀ a : Nat, a < s.heap.size → ¬ A a) : ∃ a k kv m mv : Nat, (Term.elem (Term.static "SongRefinery" "WORDS" "[LSongRefinery$Word;") (.int (Int32.ofNat 8))).eval args s none [] s = some (.ref a) ∧ va_OF "SongRefinery$Word" "key" "Ljava/lang/String;" (.ref k) a A s s.heap ∧ va_OF "SongRefinery$Word" "form" "Ljava/lang/String;" (.ref m) a A s s.heap ∧ va_OF "SongRefinery$Word" "sign" "I" (.int (nI (WS 8))) a A s s.heap ∧ SO k kv (wl 8) (fun i => nI (kc 8 i)) A s s.heap ∧ SO m mv (fmN 8) (fun i => nI (fmC 8 i)) A s s.heap := by
  obtain ⟨k, kv, hk, hS⟩ := st_k8 (A := A) hF hA
  obtain ⟨m, mv, hm, hM⟩ := st_f8 (A := A) hF hA
  obtain ⟨a, c, cA, kA, q1, -⟩ := Cond.exactly_spec (args := args) (first := s) (o := none) (s := s) (idx := []) (t := (Term.static "SongRefinery$Word" "TANK" "LSongRefinery$Word;")) (cls := "SongRefinery$Word") (hF _ (List.mem_of_getElem? (i := 96) (by decide +kernel)))
  exact ⟨a, k, kv, m, mv, va_eqv (hF _ (List.mem_of_getElem? (i := 19) (by decide +kernel))) q1, vk_OFof q1 (va_eqv (hF _ (List.mem_of_getElem? (i := 98) (by decide +kernel))) hk) hA, vk_OFof q1 (va_eqv (hF _ (List.mem_of_getElem? (i := 99) (by decide +kernel))) hm) hA, vk_OFof q1 (va_eqt (z := nI (WS 8)) (hF _ (List.mem_of_getElem? (i := 100) (by decide +kernel)))) hA, hS, hM⟩
theorem st_k9 (hF : ∀ w ∈ FLA, w.before args s = true) (hA : ∀ a : Nat, a < s.heap.size → ¬ A a) : ∃ k kv, (Term.string "SongRefinery$Word" 109).eval args s none [] s = some (.ref k) ∧ SO k kv (wl 9) (fun i => nI (kc 9 i)) A s s.heap := by
  have hn : wl 9 = 5 := by decide
  refine SO_of (by rw [hn]; decide) (hF _ (List.mem_of_getElem? (i := 772) (by decide +kernel))) (hF _ (List.mem_of_getElem? (i := 773) (by decide +kernel))) (hF _ (List.mem_of_getElem? (i := 774) (by decide +kernel))) (by rw [hn]; exact hF _ (List.mem_of_getElem? (i := 775) (by decide +kernel))) (fun i hi => ?_) hA
  rw [hn] at hi
  rcases (show i = 0 ∨ i = 1 ∨ i = 2 ∨ i = 3 ∨ i = 4 by omega) with rfl | rfl | rfl | rfl | rfl
  · exact hF _ (List.mem_of_getElem? (i := 776) (by decide +kernel))
  · exact hF _ (List.mem_of_getElem? (i := 777) (by decide +kernel))
  · exact hF _ (List.mem_of_getElem? (i := 778) (by decide +kernel))
  · exact hF _ (List.mem_of_getElem? (i := 779) (by decide +kernel))
  · exact hF _ (List.mem_of_getElem? (i := 780) (by decide +kernel))
theorem st_f9 (hF : ∀ w ∈ FLA, w.before args s = true) (hA : ∀ a : Nat, a < s.heap.size → ¬ A a) : ∃ k kv, (Term.string "SongRefinery$Word" 111).eval args s none [] s = some (.ref k) ∧ SO k kv (fmN 9) (fun i => nI (fmC 9 i)) A s s.heap := by
  have hn : fmN 9 = 2 := by decide
  refine SO_of (by rw [hn]; decide) (hF _ (List.mem_of_getElem? (i := 781) (by decide +kernel))) (hF _ (List.mem_of_getElem? (i := 782) (by decide +kernel))) (hF _ (List.mem_of_getElem? (i := 783) (by decide +kernel))) (by rw [hn]; exact hF _ (List.mem_of_getElem? (i := 784) (by decide +kernel))) (fun i hi => ?_) hA
  rw [hn] at hi
  rcases (show i = 0 ∨ i = 1 by omega) with rfl | rfl
  · exact hF _ (List.mem_of_getElem? (i := 785) (by decide +kernel))
  · exact hF _ (List.mem_of_getElem? (i := 786) (by decide +kernel))
theorem wo_9 (hF : ∀ w ∈ FLA, w.before args s = true) (hA : ∀ a : Nat, a < s.heap.size → ¬ A a) : ∃ a k kv m mv : Nat, (Term.elem (Term.static "SongRefinery" "WORDS" "[LSongRefinery$Word;") (.int (Int32.ofNat 9))).eval args s none [] s = some (.ref a) ∧ va_OF "SongRefinery$Word" "key" "Ljava/lang/String;" (.ref k) a A s s.heap ∧ va_OF "SongRefinery$Word" "form" "Ljava/lang/String;" (.ref m) a A s s.heap ∧ va_OF "SongRefinery$Word" "sign" "I" (.int (nI (WS 9))) a A s s.heap ∧ SO k kv (wl 9) (fun i => nI (kc 9 i)) A s s.heap ∧ SO m mv (fmN 9) (fun i => nI (fmC 9 i)) A s s.heap := by
  obtain ⟨k, kv, hk, hS⟩ := st_k9 (A := A) hF hA
  obtain ⟨m, mv, hm, hM⟩ := st_f9 (A := A) hF hA
  obtain ⟨a, c, cA, kA, q1, -⟩ := Cond.exactly_spec (args := args) (first := s) (o := none) (s := s) (idx := []) (t := (Term.static "SongRefinery$Word" "TUNE" "LSongRefinery$Word;")) (cls := "SongRefinery$Word") (hF _ (List.mem_of_getElem? (i := 109) (by decide +kernel)))
  exact ⟨a, k, kv, m, mv, va_eqv (hF _ (List.mem_of_getElem? (i := 20) (by decide +kernel))) q1, vk_OFof q1 (va_eqv (hF _ (List.mem_of_getElem? (i := 111) (by decide +kernel))) hk) hA, vk_OFof q1 (va_eqv (hF _ (List.mem_of_getElem? (i := 112) (by decide +kernel))) hm) hA, vk_OFof q1 (va_eqt (z := nI (WS 9)) (hF _ (List.mem_of_getElem? (i := 113) (by decide +kernel)))) hA, hS, hM⟩
theorem st_k10 (hF : ∀ w ∈ FLA, w.before args s = true) (hA : ∀ a : Nat, a < s.heap.size → ¬ A a) : ∃ k kv, (Term.string "SongRefinery$Word" 114).eval args s none [] s = some (.ref k) ∧ SO k kv (wl 10) (fun i => nI (kc 10 i)) A s s.heap := by
  have hn : wl 10 = 5 := by decide
  refine SO_of (by rw [hn]; decide) (hF _ (List.mem_of_getElem? (i := 787) (by decide +kernel))) (hF _ (List.mem_of_getElem? (i := 788) (by decide +kernel))) (hF _ (List.mem_of_getElem? (i := 789) (by decide +kernel))) (by rw [hn]; exact hF _ (List.mem_of_getElem? (i := 790) (by decide +kernel))) (fun i hi => ?_) hA
  rw [hn] at hi
  rcases (show i = 0 ∨ i = 1 ∨ i = 2 ∨ i = 3 ∨ i = 4 by omega) with rfl | rfl | rfl | rfl | rfl
  · exact hF _ (List.mem_of_getElem? (i := 791) (by decide +kernel))
  · exact hF _ (List.mem_of_getElem? (i := 792) (by decide +kernel))
  · exact hF _ (List.mem_of_getElem? (i := 793) (by decide +kernel))
  · exact hF _ (List.mem_of_getElem? (i := 794) (by decide +kernel))
  · exact hF _ (List.mem_of_getElem? (i := 795) (by decide +kernel))
theorem st_f10 (hF : ∀ w ∈ FLA, w.before args s = true) (hA : ∀ a : Nat, a < s.heap.size → ¬ A a) : ∃ k kv, (Term.string "SongRefinery$Word" 98).eval args s none [] s = some (.ref k) ∧ SO k kv (fmN 10) (fun i => nI (fmC 10 i)) A s s.heap := by
  have hn : fmN 10 = 1 := by decide
  refine SO_of (by rw [hn]; decide) (hF _ (List.mem_of_getElem? (i := 741) (by decide +kernel))) (hF _ (List.mem_of_getElem? (i := 742) (by decide +kernel))) (hF _ (List.mem_of_getElem? (i := 743) (by decide +kernel))) (by rw [hn]; exact hF _ (List.mem_of_getElem? (i := 744) (by decide +kernel))) (fun i hi => ?_) hA
  rw [hn] at hi
  obtain rfl : i = 0 := by omega
  exact hF _ (List.mem_of_getElem? (i := 745) (by decide +kernel))
theorem wo_10 (hF : ∀ w ∈ FLA, w.before args s = true) (hA : ∀ a : Nat, a < s.heap.size → ¬ A a) : ∃ a k kv m mv : Nat, (Term.elem (Term.static "SongRefinery" "WORDS" "[LSongRefinery$Word;") (.int (Int32.ofNat 10))).eval args s none [] s = some (.ref a) ∧ va_OF "SongRefinery$Word" "key" "Ljava/lang/String;" (.ref k) a A s s.heap ∧ va_OF "SongRefinery$Word" "form" "Ljava/lang/String;" (.ref m) a A s s.heap ∧ va_OF "SongRefinery$Word" "sign" "I" (.int (nI (WS 10))) a A s s.heap ∧ SO k kv (wl 10) (fun i => nI (kc 10 i)) A s s.heap ∧ SO m mv (fmN 10) (fun i => nI (fmC 10 i)) A s s.heap := by
  obtain ⟨k, kv, hk, hS⟩ := st_k10 (A := A) hF hA
  obtain ⟨m, mv, hm, hM⟩ := st_f10 (A := A) hF hA
  obtain ⟨a, c, cA, kA, q1, -⟩ := Cond.exactly_spec (args := args) (first := s) (o := none) (s := s) (idx := []) (t := (Term.static "SongRefinery$Word" "POUR" "LSongRefinery$Word;")) (cls := "SongRefinery$Word") (hF _ (List.mem_of_getElem? (i := 123) (by decide +kernel)))
  exact ⟨a, k, kv, m, mv, va_eqv (hF _ (List.mem_of_getElem? (i := 21) (by decide +kernel))) q1, vk_OFof q1 (va_eqv (hF _ (List.mem_of_getElem? (i := 125) (by decide +kernel))) hk) hA, vk_OFof q1 (va_eqv (hF _ (List.mem_of_getElem? (i := 126) (by decide +kernel))) hm) hA, vk_OFof q1 (va_eqt (z := nI (WS 10)) (hF _ (List.mem_of_getElem? (i := 127) (by decide +kernel)))) hA, hS, hM⟩
theorem st_k11 (hF : ∀ w ∈ FLA, w.before args s = true) (hA : ∀ a : Nat, a < s.heap.size → ¬ A a) : ∃ k kv, (Term.string "SongRefinery$Word" 117).eval args s none [] s = some (.ref k) ∧ SO k kv (wl 11) (fun i => nI (kc 11 i)) A s s.heap := by
  have hn : wl 11 = 6 := by decide
  refine SO_of (by rw [hn]; decide) (hF _ (List.mem_of_getElem? (i := 796) (by decide +kernel))) (hF _ (List.mem_of_getElem? (i := 797) (by decide +kernel))) (hF _ (List.mem_of_getElem? (i := 798) (by decide +kernel))) (by rw [hn]; exact hF _ (List.mem_of_getElem? (i := 799) (by decide +kernel))) (fun i hi => ?_) hA
  rw [hn] at hi
  rcases (show i = 0 ∨ i = 1 ∨ i = 2 ∨ i = 3 ∨ i = 4 ∨ i = 5 by omega) with rfl | rfl | rfl | rfl | rfl | rfl
  · exact hF _ (List.mem_of_getElem? (i := 800) (by decide +kernel))
  · exact hF _ (List.mem_of_getElem? (i := 801) (by decide +kernel))
  · exact hF _ (List.mem_of_getElem? (i := 802) (by decide +kernel))
  · exact hF _ (List.mem_of_getElem? (i := 803) (by decide +kernel))
  · exact hF _ (List.mem_of_getElem? (i := 804) (by decide +kernel))
  · exact hF _ (List.mem_of_getElem? (i := 805) (by decide +kernel))
theorem st_f11 (hF : ∀ w ∈ FLA, w.before args s = true) (hA : ∀ a : Nat, a < s.heap.size → ¬ A a) : ∃ k kv, (Term.string "SongRefinery$Word" 119).eval args s none [] s = some (.ref k) ∧ SO k kv (fmN 11) (fun i => nI (fmC 11 i)) A s s.heap := by
  have hn : fmN 11 = 2 := by decide
  refine SO_of (by rw [hn]; decide) (hF _ (List.mem_of_getElem? (i := 806) (by decide +kernel))) (hF _ (List.mem_of_getElem? (i := 807) (by decide +kernel))) (hF _ (List.mem_of_getElem? (i := 808) (by decide +kernel))) (by rw [hn]; exact hF _ (List.mem_of_getElem? (i := 809) (by decide +kernel))) (fun i hi => ?_) hA
  rw [hn] at hi
  rcases (show i = 0 ∨ i = 1 by omega) with rfl | rfl
  · exact hF _ (List.mem_of_getElem? (i := 810) (by decide +kernel))
  · exact hF _ (List.mem_of_getElem? (i := 811) (by decide +kernel))
theorem wo_11 (hF : ∀ w ∈ FLA, w.before args s = true) (hA : ∀ a : Nat, a < s.heap.size → ¬ A a) : ∃ a k kv m mv : Nat, (Term.elem (Term.static "SongRefinery" "WORDS" "[LSongRefinery$Word;") (.int (Int32.ofNat 11))).eval args s none [] s = some (.ref a) ∧ va_OF "SongRefinery$Word" "key" "Ljava/lang/String;" (.ref k) a A s s.heap ∧ va_OF "SongRefinery$Word" "form" "Ljava/lang/String;" (.ref m) a A s s.heap ∧ va_OF "SongRefinery$Word" "sign" "I" (.int (nI (WS 11))) a A s s.heap ∧ SO k kv (wl 11) (fun i => nI (kc 11 i)) A s s.heap ∧ SO m mv (fmN 11) (fun i => nI (fmC 11 i)) A s s.heap := by
  obtain ⟨k, kv, hk, hS⟩ := st_k11 (A := A) hF hA
  obtain ⟨m, mv, hm, hM⟩ := st_f11 (A := A) hF hA
  obtain ⟨a, c, cA, kA, q1, -⟩ := Cond.exactly_spec (args := args) (first := s) (o := none) (s := s) (idx := []) (t := (Term.static "SongRefinery$Word" "DRAIN" "LSongRefinery$Word;")) (cls := "SongRefinery$Word") (hF _ (List.mem_of_getElem? (i := 138) (by decide +kernel)))
  exact ⟨a, k, kv, m, mv, va_eqv (hF _ (List.mem_of_getElem? (i := 22) (by decide +kernel))) q1, vk_OFof q1 (va_eqv (hF _ (List.mem_of_getElem? (i := 140) (by decide +kernel))) hk) hA, vk_OFof q1 (va_eqv (hF _ (List.mem_of_getElem? (i := 141) (by decide +kernel))) hm) hA, vk_OFof q1 (va_eqt (z := nI (WS 11)) (hF _ (List.mem_of_getElem? (i := 142) (by decide +kernel)))) hA, hS, hM⟩
theorem words_ok (hF : ∀ w ∈ FLA, w.before args s = true) (hts : ∀ w ∈ lw_tbl, w.before args s = true) (hA : ∀ a : Nat, a < s.heap.size → ¬ A a) : ∃ wd : WDT, WDS wd A s s.heap := by
  obtain ⟨a0, k0, u0, m0, v0, e0, f0, g0, h0, i0, j0⟩ := wo_0 (A := A) hF hA
  obtain ⟨a1, k1, u1, m1, v1, e1, f1, g1, h1, i1, j1⟩ := wo_1 (A := A) hF hA
  obtain ⟨a2, k2, u2, m2, v2, e2, f2, g2, h2, i2, j2⟩ := wo_2 (A := A) hF hA
  obtain ⟨a3, k3, u3, m3, v3, e3, f3, g3, h3, i3, j3⟩ := wo_3 (A := A) hF hA
  obtain ⟨a4, k4, u4, m4, v4, e4, f4, g4, h4, i4, j4⟩ := wo_4 (A := A) hF hA
  obtain ⟨a5, k5, u5, m5, v5, e5, f5, g5, h5, i5, j5⟩ := wo_5 (A := A) hF hA
  obtain ⟨a6, k6, u6, m6, v6, e6, f6, g6, h6, i6, j6⟩ := wo_6 (A := A) hF hA
  obtain ⟨a7, k7, u7, m7, v7, e7, f7, g7, h7, i7, j7⟩ := wo_7 (A := A) hF hA
  obtain ⟨a8, k8, u8, m8, v8, e8, f8, g8, h8, i8, j8⟩ := wo_8 (A := A) hF hA
  obtain ⟨a9, k9, u9, m9, v9, e9, f9, g9, h9, i9, j9⟩ := wo_9 (A := A) hF hA
  obtain ⟨a10, k10, u10, m10, v10, e10, f10, g10, h10, i10, j10⟩ := wo_10 (A := A) hF hA
  obtain ⟨a11, k11, u11, m11, v11, e11, f11, g11, h11, i11, j11⟩ := wo_11 (A := A) hF hA
  obtain ⟨t, ht, hT⟩ := va_Tof (args := args) (s := s) (tm := Term.static "SongRefinery" "WORDS" "[LSongRefinery$Word;") (ty := .object "SongRefinery$Word") (N := 12) (f := fun j => .ref ([a0, a1, a2, a3, a4, a5, a6, a7, a8, a9, a10, a11].getD j 0)) (A := A) (by decide) (hF _ (List.mem_of_getElem? (i := 8) (by decide +kernel))) (va_eqt (hF _ (List.mem_of_getElem? (i := 9) (by decide +kernel)))) (fun j hj => by
    rcases (show j = 0 ∨ j = 1 ∨ j = 2 ∨ j = 3 ∨ j = 4 ∨ j = 5 ∨ j = 6 ∨ j = 7 ∨ j = 8 ∨ j = 9 ∨ j = 10 ∨ j = 11 by omega) with rfl | rfl | rfl | rfl | rfl | rfl | rfl | rfl | rfl | rfl | rfl | rfl
    · exact e0
    · exact e1
    · exact e2
    · exact e3
    · exact e4
    · exact e5
    · exact e6
    · exact e7
    · exact e8
    · exact e9
    · exact e10
    · exact e11) hA
  refine ⟨(t, (fun j => [a0, a1, a2, a3, a4, a5, a6, a7, a8, a9, a10, a11].getD j 0), (fun j => [k0, k1, k2, k3, k4, k5, k6, k7, k8, k9, k10, k11].getD j 0), (fun j => [u0, u1, u2, u3, u4, u5, u6, u7, u8, u9, u10, u11].getD j 0), (fun j => [m0, m1, m2, m3, m4, m5, m6, m7, m8, m9, m10, m11].getD j 0), (fun j => [v0, v1, v2, v3, v4, v5, v6, v7, v8, v9, v10, v11].getD j 0)), ⟨va_Zof (hts _ (List.mem_of_getElem? (i := 1080) (by decide +kernel))) (hts _ (GT_tbl g_87)) (va_eqi (hF _ (List.mem_of_getElem? (i := 23) (by decide +kernel)))) hA, va_Zqof (hts _ (List.mem_of_getElem? (i := 1101) (by decide +kernel))) (hts _ (GT_tbl g_90)) (hF _ (List.mem_of_getElem? (i := 24) (by decide +kernel))) hA⟩, va_Zof (hts _ (List.mem_of_getElem? (i := 1066) (by decide +kernel))) (hts _ (GT_tbl g_67)) ht hA, hT, fun j hj => ?_⟩
  rcases (show j = 0 ∨ j = 1 ∨ j = 2 ∨ j = 3 ∨ j = 4 ∨ j = 5 ∨ j = 6 ∨ j = 7 ∨ j = 8 ∨ j = 9 ∨ j = 10 ∨ j = 11 by omega) with rfl | rfl | rfl | rfl | rfl | rfl | rfl | rfl | rfl | rfl | rfl | rfl
  · exact ⟨f0, g0, h0, i0, j0⟩
  · exact ⟨f1, g1, h1, i1, j1⟩
  · exact ⟨f2, g2, h2, i2, j2⟩
  · exact ⟨f3, g3, h3, i3, j3⟩
  · exact ⟨f4, g4, h4, i4, j4⟩
  · exact ⟨f5, g5, h5, i5, j5⟩
  · exact ⟨f6, g6, h6, i6, j6⟩
  · exact ⟨f7, g7, h7, i7, j7⟩
  · exact ⟨f8, g8, h8, i8, j8⟩
  · exact ⟨f9, g9, h9, i9, j9⟩
  · exact ⟨f10, g10, h10, i10, j10⟩
  · exact ⟨f11, g11, h11, i11, j11⟩
theorem xds_ok (hF : ∀ w ∈ FLA, w.before args s = true) (hts : ∀ w ∈ lw_tbl, w.before args s = true) (hA : ∀ a : Nat, a < s.heap.size → ¬ A a) : XDS A s s.heap := by
  refine ⟨va_AO.of (hts _ (List.mem_of_getElem? (i := 202) (by decide +kernel))), vx_Zqof (hts _ (List.mem_of_getElem? (i := 585) (by decide +kernel))) (hts _ (GT_tbl g_77)) (hF _ (List.mem_of_getElem? (i := 4) (by decide +kernel))) hA, vx_Zqof (hts _ (List.mem_of_getElem? (i := 587) (by decide +kernel))) (hts _ (GT_tbl g_77)) (hF _ (List.mem_of_getElem? (i := 5) (by decide +kernel))) hA, ?_⟩
  intro q hq
  simp only [STRS, List.mem_cons, List.not_mem_nil, or_false] at hq
  rcases hq with rfl | rfl | rfl | rfl | rfl | rfl | rfl | rfl | rfl | rfl | rfl | rfl | rfl | rfl | rfl
  · obtain ⟨a, c, cA, kA, q1, -⟩ := Cond.exactly_spec (args := args) (first := s) (o := none) (s := s) (idx := []) (t := Term.string "SongRefinery" 349) (cls := "java/lang/String") (hF _ (List.mem_of_getElem? (i := 233) (by decide +kernel)))
    exact ⟨a, vk_R.of (A := args) (hts _ (List.mem_of_getElem? (i := 602) (by decide +kernel))) q1⟩
  · obtain ⟨a, c, cA, kA, q1, -⟩ := Cond.exactly_spec (args := args) (first := s) (o := none) (s := s) (idx := []) (t := Term.string "SongRefinery" 351) (cls := "java/lang/String") (hF _ (List.mem_of_getElem? (i := 276) (by decide +kernel)))
    exact ⟨a, vk_R.of (A := args) (hts _ (List.mem_of_getElem? (i := 638) (by decide +kernel))) q1⟩
  · obtain ⟨a, c, cA, kA, q1, -⟩ := Cond.exactly_spec (args := args) (first := s) (o := none) (s := s) (idx := []) (t := Term.string "SongRefinery" 353) (cls := "java/lang/String") (hF _ (List.mem_of_getElem? (i := 307) (by decide +kernel)))
    exact ⟨a, vk_R.of (A := args) (hts _ (List.mem_of_getElem? (i := 654) (by decide +kernel))) q1⟩
  · obtain ⟨a, c, cA, kA, q1, -⟩ := Cond.exactly_spec (args := args) (first := s) (o := none) (s := s) (idx := []) (t := Term.string "SongRefinery" 355) (cls := "java/lang/String") (hF _ (List.mem_of_getElem? (i := 332) (by decide +kernel)))
    exact ⟨a, vk_R.of (A := args) (hts _ (List.mem_of_getElem? (i := 670) (by decide +kernel))) q1⟩
  · obtain ⟨a, c, cA, kA, q1, -⟩ := Cond.exactly_spec (args := args) (first := s) (o := none) (s := s) (idx := []) (t := Term.string "SongRefinery" 172) (cls := "java/lang/String") (hF _ (List.mem_of_getElem? (i := 374) (by decide +kernel)))
    exact ⟨a, vk_R.of (A := args) (hts _ (List.mem_of_getElem? (i := 870) (by decide +kernel))) q1⟩
  · obtain ⟨a, c, cA, kA, q1, -⟩ := Cond.exactly_spec (args := args) (first := s) (o := none) (s := s) (idx := []) (t := Term.string "SongRefinery" 249) (cls := "java/lang/String") (hF _ (List.mem_of_getElem? (i := 408) (by decide +kernel)))
    exact ⟨a, vk_R.of (A := args) (hts _ (List.mem_of_getElem? (i := 1032) (by decide +kernel))) q1⟩
  · obtain ⟨a, c, cA, kA, q1, -⟩ := Cond.exactly_spec (args := args) (first := s) (o := none) (s := s) (idx := []) (t := Term.string "SongRefinery" 279) (cls := "java/lang/String") (hF _ (List.mem_of_getElem? (i := 433) (by decide +kernel)))
    exact ⟨a, vk_R.of (A := args) (hts _ (List.mem_of_getElem? (i := 1145) (by decide +kernel))) q1⟩
  · obtain ⟨a, c, cA, kA, q1, -⟩ := Cond.exactly_spec (args := args) (first := s) (o := none) (s := s) (idx := []) (t := Term.string "SongRefinery" 294) (cls := "java/lang/String") (hF _ (List.mem_of_getElem? (i := 467) (by decide +kernel)))
    exact ⟨a, vk_R.of (A := args) (hts _ (List.mem_of_getElem? (i := 1158) (by decide +kernel))) q1⟩
  · obtain ⟨a, c, cA, kA, q1, -⟩ := Cond.exactly_spec (args := args) (first := s) (o := none) (s := s) (idx := []) (t := Term.string "SongRefinery" 300) (cls := "java/lang/String") (hF _ (List.mem_of_getElem? (i := 486) (by decide +kernel)))
    exact ⟨a, vk_R.of (A := args) (hts _ (List.mem_of_getElem? (i := 1170) (by decide +kernel))) q1⟩
  · obtain ⟨a, c, cA, kA, q1, -⟩ := Cond.exactly_spec (args := args) (first := s) (o := none) (s := s) (idx := []) (t := Term.string "SongRefinery" 302) (cls := "java/lang/String") (hF _ (List.mem_of_getElem? (i := 515) (by decide +kernel)))
    exact ⟨a, vk_R.of (A := args) (hts _ (List.mem_of_getElem? (i := 1178) (by decide +kernel))) q1⟩
  · obtain ⟨a, c, cA, kA, q1, -⟩ := Cond.exactly_spec (args := args) (first := s) (o := none) (s := s) (idx := []) (t := Term.string "SongRefinery" 316) (cls := "java/lang/String") (hF _ (List.mem_of_getElem? (i := 540) (by decide +kernel)))
    exact ⟨a, vk_R.of (A := args) (hts _ (List.mem_of_getElem? (i := 1193) (by decide +kernel))) q1⟩
  · obtain ⟨a, c, cA, kA, q1, -⟩ := Cond.exactly_spec (args := args) (first := s) (o := none) (s := s) (idx := []) (t := Term.string "SongRefinery" 324) (cls := "java/lang/String") (hF _ (List.mem_of_getElem? (i := 566) (by decide +kernel)))
    exact ⟨a, vk_R.of (A := args) (hts _ (List.mem_of_getElem? (i := 1221) (by decide +kernel))) q1⟩
  · obtain ⟨a, c, cA, kA, q1, -⟩ := Cond.exactly_spec (args := args) (first := s) (o := none) (s := s) (idx := []) (t := Term.string "SongRefinery" 331) (cls := "java/lang/String") (hF _ (List.mem_of_getElem? (i := 591) (by decide +kernel)))
    exact ⟨a, vk_R.of (A := args) (hts _ (List.mem_of_getElem? (i := 1234) (by decide +kernel))) q1⟩
  · obtain ⟨a, c, cA, kA, q1, -⟩ := Cond.exactly_spec (args := args) (first := s) (o := none) (s := s) (idx := []) (t := Term.string "SongRefinery" 341) (cls := "java/lang/String") (hF _ (List.mem_of_getElem? (i := 613) (by decide +kernel)))
    exact ⟨a, vk_R.of (A := args) (hts _ (List.mem_of_getElem? (i := 1242) (by decide +kernel))) q1⟩
  · obtain ⟨a, c, cA, kA, q1, -⟩ := Cond.exactly_spec (args := args) (first := s) (o := none) (s := s) (idx := []) (t := Term.string "SongRefinery" 346) (cls := "java/lang/String") (hF _ (List.mem_of_getElem? (i := 643) (by decide +kernel)))
    exact ⟨a, vk_R.of (A := args) (hts _ (List.mem_of_getElem? (i := 1254) (by decide +kernel))) q1⟩
theorem nc_ok (hF : ∀ w ∈ FLA, w.before args s = true) : ∀ q ∈ NCL, va_Nc q.1 q.2 s := by
  intro q hq
  simp only [NCL, List.mem_cons, List.not_mem_nil, or_false] at hq
  rcases hq with rfl | rfl | rfl | rfl | rfl | rfl
  · exact va_Nc.of (args := args) (hF _ (List.mem_of_getElem? (i := 165) (by decide +kernel)))
  · exact va_Nc.of (args := args) (hF _ (List.mem_of_getElem? (i := 196) (by decide +kernel)))
  · exact va_Nc.of (args := args) (hF _ (List.mem_of_getElem? (i := 197) (by decide +kernel)))
  · exact va_Nc.of (args := args) (hF _ (List.mem_of_getElem? (i := 198) (by decide +kernel)))
  · exact va_Nc.of (args := args) (hF _ (List.mem_of_getElem? (i := 166) (by decide +kernel)))
  · exact va_Nc.of (args := args) (hF _ (List.mem_of_getElem? (i := 200) (by decide +kernel)))
theorem nlw_ok (hts : ∀ w ∈ lw_tbl, w.before args s = true) : ∀ w ∈ NLW, va_Nw w s := fun w hw => by
  have hn := (List.mem_filter.mp hw).2
  have h := hts w (List.mem_filter.mp hw).1
  cases w <;> first
    | exact va_Nw.of rfl h
    | (simp [nestW] at hn)
theorem stat_ok (hF : ∀ w ∈ FLA, w.before args s = true) (hts : ∀ w ∈ lw_tbl, w.before args s = true) (hA : ∀ a : Nat, a < s.heap.size → ¬ A a) : ∃ wd, zStat wd A s s.heap := by
  obtain ⟨wd, hw⟩ := words_ok (A := A) hF hts hA
  exact ⟨wd, hw, xds_ok hF hts hA, nc_ok hF, nlw_ok hts⟩
end ST2
