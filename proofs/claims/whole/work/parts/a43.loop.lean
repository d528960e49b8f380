theorem and63 (x : Int32) : ∃ k, k < 64 ∧ x &&& nI 63 = nI k := ⟨_, Nat.mod_lt _ (by decide), pk_and x 6 (by decide)⟩
theorem gt_i {L k : Nat} (hL : L < 2 ^ 30) (hk : k < 2 ^ 30) (h : ¬ (nI L - nI 5) < nI k) : k + 5 ≤ L := by
  rw [Int32.lt_iff_toInt_lt, Int32.toInt_sub, nI_toInt (by omega), nI_toInt (by omega), nI_toInt (by omega)] at h
  rw [Int.bmod_eq_of_le (by omega) (by omega)] at h
  omega
set_option maxHeartbeats 4000000 in
set_option maxRecDepth 100000 in
theorem law_loop (l : Launch) (hl0 : l.stackTraces = false) {Z : ZT} (hZ : zOK Z) (hZX : ZX Z) (hNC : XNC Z) {wd : WDT} (hw : ZW Z wd) {p : Program} {e : Env} {s : State} {m : MethodId} {below : List Frame} {meth : Method} {c : Code} {b : Nat} (S : CallFix p m c cL_law 9 s #[Value.ref b] GT RL) {L : Nat} {xs : Nat → Int32} (hX : va_X b L xs s s.heap) (hbl : b < s.heap.size) (hL : L ≤ 2560) {A0 : Nat → Prop} (hbA : ¬ A0 b) {aj ad : Nat} {B : Nat → Nat} {Q : State → Prop} {c0 s0 : Nat} (hc0 : c0 + 9000 ≤ 603072) (hs0 : s0 + 825600 ≤ 7190633)
  (kend : ∀ (v : GM) (ν : MM) (f : Nat → Int64) (fd : Nat → UInt64) (H : Heap) (locs : List Loc) (ls : Array Slot) (cells slots : Nat), wW Z (LW Z aj ad B v ν f fd) A0 s H locs → cells ≤ 603072 → slots ≤ 7190633 → W p l e room_1 s m #[Value.ref b] below meth c H locs cells slots Q (F0 m 2715 ls [])) :
  ∀ (n_ ax k cells slots : Nat) (v : GM) (ν : MM) (f : Nat → Int64) (fd : Nat → UInt64) (H : Heap) (locs : List Loc) (ls : Array Slot), L - 5 * k < n_ → cells = c0 + 15 * k → slots = s0 + 1376 * k → 5 * k ≤ L → wW Z (LW Z aj ad B v ν f fd) A0 s H locs → CR v ν → v.2.1 (0, 14) = ax → lv_has ls 9 [(0, .ref b), (1, .ref ax), (2, .ref (B 0)), (3, .ref aj), (4, .ref ad), (5, .int (nI (5 * k)))] → W p l e room_1 s m #[Value.ref b] below meth c H locs cells slots Q (F0 m 28 ls []) := by
  intro n_
  induction n_ with
  | zero => intro ax k cells slots v ν f fd H locs ls hm; exact absurd hm (Nat.not_lt_zero _)
  | succ n_ ih =>
    intro ax k cells slots v ν f fd H locs ls hm hc hs hkL hU hCR hax hl
    obtain ⟨g, A, μ⟩ := v
    have hax : A (0, 14) = ax := hax
    subst hax
    have hxe := S.1
    have hcd := S.2.1
    refine lv_iload hxe hcd dL_law_28 (lv_at hl 5 rfl) ?_
    refine lv_aload_n hxe hcd dL_law_30 rfl (lv_at hl 0 rfl) ?_
    refine va_slen hxe hcd hX hbl hbA hU.2.2.1 dL_law_31 ?_
    refine lv_iconst (v := (nI 5)) hxe hcd dL_law_32 (by decide) ?_
    refine lv_isub hxe hcd dL_law_33 ?_
    refine lv_icmp_gt (tgt := 2715) hxe hcd dL_law_34 (by decide) (fun _ => ?_) (fun h => ?_)
    · exact kend (g, A, μ) ν f fd H locs ls cells slots hU (by omega) (by omega)
    · have h5 := gt_i (L := L) (k := 5 * k) (by omega) (by omega) h
      have hi : 5 * k + 4 < L := by omega
      refine lv_aload_n hxe hcd dL_law_37 rfl (lv_at hl 0 rfl) ?_
      refine lv_iload hxe hcd dL_law_38 (lv_at hl 5 rfl) ?_
      refine l_sc S hU hX hbl hbA (j := 5 * k) (by omega) (by omega) dL_law_40 ?_
      refine lv_bipush (v := (nI 63)) hxe hcd dL_law_41 (by decide) ?_
      refine lv_iand hxe hcd dL_law_43 ?_
      obtain ⟨q, hq, he⟩ := and63 (xs (5 * k))
      refine r_as he ?_
      have kk : ∀ (v' : GM) (ν' : MM) (f' : Nat → Int64) (fd' : Nat → UInt64) (H' : Heap) (locs' : List Loc) (ls' : Array Slot), wW Z (LW Z aj ad B v' ν' f' fd') A0 s H' locs' → CR v' ν' → v'.2.1 (0, 14) = A (0, 14) → lv_has ls' 9 [(0, .ref b), (1, .ref (A (0, 14))), (2, .ref (B 0)), (3, .ref aj), (4, .ref ad), (5, .int (nI (5 * k)))] → W p l e room_1 s m #[Value.ref b] below meth c H' locs' (cells + 15) (slots + 1376) Q (F0 m 2709 ls' []) := by
        intro v' ν' f' fd' H' locs' ls' hU hCR hax hl
        refine lv_iinc (v := nI (5 * k + 5)) (lv' := [(5, .int (nI (5 * k + 5))), (0, .ref b), (1, .ref (A (0, 14))), (2, .ref (B 0)), (3, .ref aj), (4, .ref ad)]) hxe hcd dL_law_2709 hl (k := 5) rfl (nI_add (5 * k) 5) (by decide) rfl (fun ls hl => ?_)
        refine lv_goto (tgt := 28) hxe hcd dL_law_2712 (by decide) ?_
        exact ih (A (0, 14)) (k + 1) (cells + 15) (slots + 1376) v' ν' f' fd' H' locs' ls (by omega) (by omega) (by omega) (by omega) hU hCR hax (lv_sub hl [1, 2, 3, 4, 5, 0] rfl)
      by_cases hq48 : q < 48
      · rcases (show q = 0 ∨ q = 1 ∨ q = 2 ∨ q = 3 ∨ q = 4 ∨ q = 5 ∨ q = 6 ∨ q = 7 ∨ q = 8 ∨ q = 9 ∨ q = 10 ∨ q = 11 ∨ q = 12 ∨ q = 13 ∨ q = 14 ∨ q = 15 ∨ q = 16 ∨ q = 17 ∨ q = 18 ∨ q = 19 ∨ q = 20 ∨ q = 21 ∨ q = 22 ∨ q = 23 ∨ q = 24 ∨ q = 25 ∨ q = 26 ∨ q = 27 ∨ q = 28 ∨ q = 29 ∨ q = 30 ∨ q = 31 ∨ q = 32 ∨ q = 33 ∨ q = 34 ∨ q = 35 ∨ q = 36 ∨ q = 37 ∨ q = 38 ∨ q = 39 ∨ q = 40 ∨ q = 41 ∨ q = 42 ∨ q = 43 ∨ q = 44 ∨ q = 45 ∨ q = 46 ∨ q = 47 by omega) with hz | hz | hz | hz | hz | hz | hz | hz | hz | hz | hz | hz | hz | hz | hz | hz | hz | hz | hz | hz | hz | hz | hz | hz | hz | hz | hz | hz | hz | hz | hz | hz | hz | hz | hz | hz | hz | hz | hz | hz | hz | hz | hz | hz | hz | hz | hz | hz <;> subst hz
        · refine lv_tableIn (tgt := 252) hxe hcd dL_law_44 (by decide) (by decide) (by first | rfl | decide) (by decide) ?_
          exact c_0 l hl0 hZ hZX hNC hw S hX hbl (by omega) hbA hU hCR hi hl (by omega) (by omega) kk
        · refine lv_tableIn (tgt := 322) hxe hcd dL_law_44 (by decide) (by decide) (by first | rfl | decide) (by decide) ?_
          exact c_1 l hl0 hZ hZX hNC hw S hX hbl (by omega) hbA hU hCR hi hl (by omega) (by omega) kk
        · refine lv_tableIn (tgt := 404) hxe hcd dL_law_44 (by decide) (by decide) (by first | rfl | decide) (by decide) ?_
          exact c_2 l hl0 hZ hZX hNC hw S hX hbl (by omega) hbA hU hCR hi hl (by omega) (by omega) kk
        · refine lv_tableIn (tgt := 460) hxe hcd dL_law_44 (by decide) (by decide) (by first | rfl | decide) (by decide) ?_
          exact c_3 l hl0 hZ hZX hNC hw S hX hbl (by omega) hbA hU hCR hi hl (by omega) (by omega) kk
        · refine lv_tableIn (tgt := 528) hxe hcd dL_law_44 (by decide) (by decide) (by first | rfl | decide) (by decide) ?_
          exact c_4 l hl0 hZ hZX hNC hw S hX hbl (by omega) hbA hU hCR hi hl (by omega) (by omega) kk
        · refine lv_tableIn (tgt := 541) hxe hcd dL_law_44 (by decide) (by decide) (by first | rfl | decide) (by decide) ?_
          exact c_5 l hl0 hZ hZX hNC hw S hX hbl (by omega) hbA hU hCR hi hl (by omega) (by omega) kk
        · refine lv_tableIn (tgt := 597) hxe hcd dL_law_44 (by decide) (by decide) (by first | rfl | decide) (by decide) ?_
          exact c_6 l hl0 hZ hZX hNC hw S hX hbl (by omega) hbA hU hCR hi hl (by omega) (by omega) kk
        · refine lv_tableIn (tgt := 653) hxe hcd dL_law_44 (by decide) (by decide) (by first | rfl | decide) (by decide) ?_
          exact c_7 l hl0 hZ hZX hNC hw S hX hbl (by omega) hbA hU hCR hi hl (by omega) (by omega) kk
        · refine lv_tableIn (tgt := 745) hxe hcd dL_law_44 (by decide) (by decide) (by first | rfl | decide) (by decide) ?_
          exact c_8 l hl0 hZ hZX hNC hw S hX hbl (by omega) hbA hU hCR hi hl (by omega) (by omega) kk
        · refine lv_tableIn (tgt := 801) hxe hcd dL_law_44 (by decide) (by decide) (by first | rfl | decide) (by decide) ?_
          exact c_9 l hl0 hZ hZX hNC hw S hX hbl (by omega) hbA hU hCR hi hl (by omega) (by omega) kk
        · refine lv_tableIn (tgt := 857) hxe hcd dL_law_44 (by decide) (by decide) (by first | rfl | decide) (by decide) ?_
          exact c_10 l hl0 hZ hZX hNC hw S hX hbl (by omega) hbA hU hCR hi hl (by omega) (by omega) kk
        · refine lv_tableIn (tgt := 913) hxe hcd dL_law_44 (by decide) (by decide) (by first | rfl | decide) (by decide) ?_
          exact c_11 l hl0 hZ hZX hNC hw S hX hbl (by omega) hbA hU hCR hi hl (by omega) (by omega) kk
        · refine lv_tableIn (tgt := 981) hxe hcd dL_law_44 (by decide) (by decide) (by first | rfl | decide) (by decide) ?_
          exact c_12 l hl0 hZ hZX hNC hw S hX hbl (by omega) hbA hU hCR hi hl (by omega) (by omega) kk
        · refine lv_tableIn (tgt := 1049) hxe hcd dL_law_44 (by decide) (by decide) (by first | rfl | decide) (by decide) ?_
          exact c_13 l hl0 hZ hZX hNC hw S hX hbl (by omega) hbA hU hCR hi hl (by omega) (by omega) kk
        · refine lv_tableIn (tgt := 1117) hxe hcd dL_law_44 (by decide) (by decide) (by first | rfl | decide) (by decide) ?_
          exact c_14 l hl0 hZ hZX hNC hw S hX hbl (by omega) hbA hU hCR hi hl (by omega) (by omega) kk
        · refine lv_tableIn (tgt := 1197) hxe hcd dL_law_44 (by decide) (by decide) (by first | rfl | decide) (by decide) ?_
          exact c_15 l hl0 hZ hZX hNC hw S hX hbl (by omega) hbA hU hCR hi hl (by omega) (by omega) kk
        · refine lv_tableIn (tgt := 1253) hxe hcd dL_law_44 (by decide) (by decide) (by first | rfl | decide) (by decide) ?_
          exact c_16 l hl0 hZ hZX hNC hw S hX hbl (by omega) hbA hU hCR hi hl (by omega) (by omega) kk
        · refine lv_tableIn (tgt := 1308) hxe hcd dL_law_44 (by decide) (by decide) (by first | rfl | decide) (by decide) ?_
          exact c_17 l hl0 hZ hZX hNC hw S hX hbl (by omega) hbA hU hCR hi hl (by omega) (by omega) kk
        · refine lv_tableIn (tgt := 1364) hxe hcd dL_law_44 (by decide) (by decide) (by first | rfl | decide) (by decide) ?_
          exact c_18 l hl0 hZ hZX hNC hw S hX hbl (by omega) hbA hU hCR hi hl (by omega) (by omega) kk
        · refine lv_tableIn (tgt := 1377) hxe hcd dL_law_44 (by decide) (by decide) (by first | rfl | decide) (by decide) ?_
          exact c_19 l hl0 hZ hZX hNC hw S hX hbl (by omega) hbA hU hCR hi hl (by omega) (by omega) kk
        · refine lv_tableIn (tgt := 1433) hxe hcd dL_law_44 (by decide) (by decide) (by first | rfl | decide) (by decide) ?_
          exact c_20 l hl0 hZ hZX hNC hw S hX hbl (by omega) hbA hU hCR hi hl (by omega) (by omega) kk
        · refine lv_tableIn (tgt := 1501) hxe hcd dL_law_44 (by decide) (by decide) (by first | rfl | decide) (by decide) ?_
          exact c_21 l hl0 hZ hZX hNC hw S hX hbl (by omega) hbA hU hCR hi hl (by omega) (by omega) kk
        · refine lv_tableIn (tgt := 1557) hxe hcd dL_law_44 (by decide) (by decide) (by first | rfl | decide) (by decide) ?_
          exact c_22 l hl0 hZ hZX hNC hw S hX hbl (by omega) hbA hU hCR hi hl (by omega) (by omega) kk
        · refine lv_tableIn (tgt := 1625) hxe hcd dL_law_44 (by decide) (by decide) (by first | rfl | decide) (by decide) ?_
          exact c_23 l hl0 hZ hZX hNC hw S hX hbl (by omega) hbA hU hCR hi hl (by omega) (by omega) kk
        · refine lv_tableIn (tgt := 1638) hxe hcd dL_law_44 (by decide) (by decide) (by first | rfl | decide) (by decide) ?_
          exact c_24 l hl0 hZ hZX hNC hw S hX hbl (by omega) hbA hU hCR hi hl (by omega) (by omega) kk
        · refine lv_tableIn (tgt := 1694) hxe hcd dL_law_44 (by decide) (by decide) (by first | rfl | decide) (by decide) ?_
          exact c_25 l hl0 hZ hZX hNC hw S hX hbl (by omega) hbA hU hCR hi hl (by omega) (by omega) kk
        · refine lv_tableIn (tgt := 1750) hxe hcd dL_law_44 (by decide) (by decide) (by first | rfl | decide) (by decide) ?_
          exact c_26 l hl0 hZ hZX hNC hw S hX hbl (by omega) hbA hU hCR hi hl (by omega) (by omega) kk
        · refine lv_tableIn (tgt := 1806) hxe hcd dL_law_44 (by decide) (by decide) (by first | rfl | decide) (by decide) ?_
          exact c_27 l hl0 hZ hZX hNC hw S hX hbl (by omega) hbA hU hCR hi hl (by omega) (by omega) kk
        · refine lv_tableIn (tgt := 1874) hxe hcd dL_law_44 (by decide) (by decide) (by first | rfl | decide) (by decide) ?_
          exact c_28 l hl0 hZ hZX hNC hw S hX hbl (by omega) hbA hU hCR hi hl (by omega) (by omega) kk
        · refine lv_tableIn (tgt := 1930) hxe hcd dL_law_44 (by decide) (by decide) (by first | rfl | decide) (by decide) ?_
          exact c_29 l hl0 hZ hZX hNC hw S hX hbl (by omega) hbA hU hCR hi hl (by omega) (by omega) kk
        · refine lv_tableIn (tgt := 1986) hxe hcd dL_law_44 (by decide) (by decide) (by first | rfl | decide) (by decide) ?_
          exact c_30 l hl0 hZ hZX hNC hw S hX hbl (by omega) hbA hU hCR hi hl (by omega) (by omega) kk
        · refine lv_tableIn (tgt := 2042) hxe hcd dL_law_44 (by decide) (by decide) (by first | rfl | decide) (by decide) ?_
          exact c_31 l hl0 hZ hZX hNC hw S hX hbl (by omega) hbA hU hCR hi hl (by omega) (by omega) kk
        · refine lv_tableIn (tgt := 2098) hxe hcd dL_law_44 (by decide) (by decide) (by first | rfl | decide) (by decide) ?_
          exact c_32 l hl0 hZ hZX hNC hw S hX hbl (by omega) hbA hU hCR hi hl (by omega) (by omega) kk
        · refine lv_tableIn (tgt := 2111) hxe hcd dL_law_44 (by decide) (by decide) (by first | rfl | decide) (by decide) ?_
          exact c_33 l hl0 hZ hZX hNC hw S hX hbl (by omega) hbA hU hCR hi hl (by omega) (by omega) kk
        · refine lv_tableIn (tgt := 2124) hxe hcd dL_law_44 (by decide) (by decide) (by first | rfl | decide) (by decide) ?_
          exact c_34 l hl0 hZ hZX hNC hw S hX hbl (by omega) hbA hU hCR hi hl (by omega) (by omega) kk
        · refine lv_tableIn (tgt := 2137) hxe hcd dL_law_44 (by decide) (by decide) (by first | rfl | decide) (by decide) ?_
          exact c_35 l hl0 hZ hZX hNC hw S hX hbl (by omega) hbA hU hCR hi hl (by omega) (by omega) kk
        · refine lv_tableIn (tgt := 2195) hxe hcd dL_law_44 (by decide) (by decide) (by first | rfl | decide) (by decide) ?_
          exact c_36 l hl0 hZ hZX hNC hw S hX hbl (by omega) hbA hU hCR hi hl (by omega) (by omega) kk
        · refine lv_tableIn (tgt := 2239) hxe hcd dL_law_44 (by decide) (by decide) (by first | rfl | decide) (by decide) ?_
          exact c_37 l hl0 hZ hZX hNC hw S hX hbl (by omega) hbA hU hCR hi hl (by omega) (by omega) kk
        · refine lv_tableIn (tgt := 2283) hxe hcd dL_law_44 (by decide) (by decide) (by first | rfl | decide) (by decide) ?_
          exact c_38 l hl0 hZ hZX hNC hw S hX hbl (by omega) hbA hU hCR hi hl (by omega) (by omega) kk
        · refine lv_tableIn (tgt := 2327) hxe hcd dL_law_44 (by decide) (by decide) (by first | rfl | decide) (by decide) ?_
          exact c_39 l hl0 hZ hZX hNC hw S hX hbl (by omega) hbA hU hCR hi hl (by omega) (by omega) kk
        · refine lv_tableIn (tgt := 2340) hxe hcd dL_law_44 (by decide) (by decide) (by first | rfl | decide) (by decide) ?_
          exact c_40 l hl0 hZ hZX hNC hw S hX hbl (by omega) hbA hU hCR hi hl (by omega) (by omega) kk
        · refine lv_tableIn (tgt := 2396) hxe hcd dL_law_44 (by decide) (by decide) (by first | rfl | decide) (by decide) ?_
          exact c_41 l hl0 hZ hZX hNC hw S hX hbl (by omega) hbA hU hCR hi hl (by omega) (by omega) kk
        · refine lv_tableIn (tgt := 2452) hxe hcd dL_law_44 (by decide) (by decide) (by first | rfl | decide) (by decide) ?_
          exact c_42 l hl0 hZ hZX hNC hw S hX hbl (by omega) hbA hU hCR hi hl (by omega) (by omega) kk
        · refine lv_tableIn (tgt := 2529) hxe hcd dL_law_44 (by decide) (by decide) (by first | rfl | decide) (by decide) ?_
          exact c_43 l hl0 hZ hZX hNC hw S hX hbl (by omega) hbA hU hCR hi hl (by omega) (by omega) kk
        · refine lv_tableIn (tgt := 2595) hxe hcd dL_law_44 (by decide) (by decide) (by first | rfl | decide) (by decide) ?_
          exact c_44 l hl0 hZ hZX hNC hw S hX hbl (by omega) hbA hU hCR hi hl (by omega) (by omega) kk
        · refine lv_tableIn (tgt := 2608) hxe hcd dL_law_44 (by decide) (by decide) (by first | rfl | decide) (by decide) ?_
          exact c_45 l hl0 hZ hZX hNC hw S hX hbl (by omega) hbA hU hCR hi hl (by omega) (by omega) kk
        · refine lv_tableIn (tgt := 2652) hxe hcd dL_law_44 (by decide) (by decide) (by first | rfl | decide) (by decide) ?_
          exact c_46 l hl0 hZ hZX hNC hw S hX hbl (by omega) hbA hU hCR hi hl (by omega) (by omega) kk
        · refine lv_tableIn (tgt := 2665) hxe hcd dL_law_44 (by decide) (by decide) (by first | rfl | decide) (by decide) ?_
          exact c_47 l hl0 hZ hZX hNC hw S hX hbl (by omega) hbA hU hCR hi hl (by omega) (by omega) kk
      · refine lv_tableOut (tgt := 2709) hxe hcd dL_law_44 (Or.inr (by rw [nI_toInt (by omega)]; omega)) (by decide) ?_
        exact W.widen (by omega) (by omega) (kk (g, A, μ) ν f fd H locs ls hU hCR rfl hl)
