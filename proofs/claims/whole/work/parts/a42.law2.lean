theorem fs_all : (List.range 37).all (fun a => (List.range 36).all (fun b => decide (Op.cmpValue (FP.dcmp (FP.f2d (FP.fdiv (FP.i2f (nI a)) (FP.i2f (nI (b + 1))))) (FP.f2d (FP.fdiv (FP.i2f (nI a)) (FP.i2f (nI (b + 1)))))) CmpOp.l = 0))) = true := by decide +kernel
theorem fs_ok {v : Nat → Int32} (hV : VG v) {rb : UInt32} {P K : Prop} (h : (ntV v = 0 ∧ rb = FP.fconst0 ∧ P) ∨ (0 < ntV v ∧ rb = FP.fdiv (FP.i2f (nI (sumN (lvN v) (ntV v)))) (FP.i2f (nI (sumN (cpN v) (ntV v)))) ∧ K)) : vf_n64 (FP.f2d rb) ∧ Op.cmpValue (FP.dcmp (FP.f2d rb) (FP.f2d rb)) CmpOp.l = 0 := by
  have h36 := cap_36 hV
  rcases h with ⟨h0, h1, _⟩ | ⟨h0, h1, _⟩
  · rw [h1]
    refine ⟨?_, by decide +kernel⟩
    unfold vf_n64
    decide +kernel
  · rw [h1]
    have hp : 0 < sumN (cpN v) (ntV v) := by
      have := h36.2.2
      omega
    refine ⟨fd64 h36.2.1 hp h36.1, ?_⟩
    have h2 := List.all_eq_true.mp (List.all_eq_true.mp fs_all (sumN (lvN v) (ntV v)) (List.mem_range.mpr (by omega))) (sumN (cpN v) (ntV v) - 1) (List.mem_range.mpr (by omega))
    rw [show sumN (cpN v) (ntV v) - 1 + 1 = sumN (cpN v) (ntV v) by omega] at h2
    exact of_decide_eq_true h2
theorem lk_L_capacity : lkW RL 238 yL_capacity cL_capacity 4 [(0, 9, 12, 21)] 3 := ⟨g_958, g_959, g_66, g_960, ⟨by decide +kernel, by decide +kernel, by decide +kernel⟩⟩
set_option maxHeartbeats 4000000 in
set_option maxRecDepth 100000 in
theorem c_24 (l : Launch) (hl0 : l.stackTraces = false) {Z : ZT} (hZ : zOK Z) (hZX : ZX Z) (hNC : XNC Z) {wd : WDT} (hw : ZW Z wd) {p : Program} {e : Env} {s : State} {m : MethodId} {below : List Frame} {meth : Method} {c : Code} {b : Nat} (S : CallFix p m c cL_law 9 s #[Value.ref b] GT RL) {L : Nat} {xs : Nat → Int32} (hX : va_X b L xs s s.heap) (hbl : b < s.heap.size) (hL31 : L < 2 ^ 31) {A0 : Nat → Prop} (hbA : ¬ A0 b) {aj ad : Nat} {B : Nat → Nat} {Q : State → Prop} {g : Nat → Bool} {A : Nat × Nat → Nat} {μ : CM} {ν : MM} {f : Nat → Int64} {fd : Nat → UInt64} {H : Heap} {locs : List Loc} {ls : Array Slot} {i cells slots : Nat} (hU : wW Z (LW Z aj ad B (g, A, μ) ν f fd) A0 s H locs) (hCR : CR (g, A, μ) ν) (hi : i + 4 < L) (hl : lv_has ls 9 [(0, .ref b), (1, .ref (A (0, 14))), (2, .ref (B 0)), (3, .ref aj), (4, .ref ad), (5, .int (nI i))]) (hc : cells + 15 ≤ 603072) (hs : slots + 1376 ≤ 7190633)
  (kk : ∀ (v' : GM) (ν' : MM) (f' : Nat → Int64) (fd' : Nat → UInt64) (H' : Heap) (locs' : List Loc) (ls' : Array Slot), wW Z (LW Z aj ad B v' ν' f' fd') A0 s H' locs' → CR v' ν' → v'.2.1 (0, 14) = A (0, 14) → lv_has ls' 9 [(0, .ref b), (1, .ref (A (0, 14))), (2, .ref (B 0)), (3, .ref aj), (4, .ref ad), (5, .int (nI i))] → W p l e room_1 s m #[Value.ref b] below meth c H' locs' (cells + 15) (slots + 1376) Q (F0 m 2709 ls' [])) : W p l e room_1 s m #[Value.ref b] below meth c H locs cells slots Q (F0 m 1638 ls []) := by
  have hxe := S.1
  have hcd := S.2.1
  obtain ⟨hVG, hR, ⟨kr, cn, hkr, hc8, hk15, hcn, hch, hHR⟩, ⟨sv, hs4, hsv1, hm9, hsn⟩, ⟨tn, t, ht17, ht22, htn60, htx⟩, ⟨lN, hl20, hl26, hlN80, hlx⟩, ⟨he10, he11, hep2, hep3⟩, ⟨hwd, hwa⟩⟩ := id hCR
  have hR : RP (μ 0) (ν 1) := hR
  have hk15 : μ 0 15 1 = nI kr := hk15
  have hcn : μ 0 15 2 = nI cn := hcn
  have hHR : HR g μ kr cn (ν 5) := hHR
  have hm9 : μ 0 14 9 = nI sv := hm9
  have hsn : sv = 1 → VG (ν 3) ∧ RP (μ 2) (ν 3) := hsn
  have ht22 : μ 0 22 1 = nI tn := ht22
  have htx : ∀ j, j < tn → ν 8 j = nI (t j) ∧ μ 0 23 j = nI (t j) ∧ t j < 128 := htx
  have hl26 : μ 0 26 1 = nI lN := hl26
  have hlx : ∀ j, j < lN → ν 9 j = μ 0 27 j ∧ CH (ν 9 j) := hlx
  refine lv_aload_n hxe hcd dL_law_1638 rfl (lv_at hl 1 rfl) ?_
  refine lv_aload_n hxe hcd dL_law_1639 rfl (lv_at hl 0 rfl) ?_
  refine lv_iload hxe hcd dL_law_1640 (lv_at hl 5 rfl) ?_
  refine lv_iconst (v := (nI 1)) hxe hcd dL_law_1642 (by decide) ?_
  refine n_iadd S (a := i) (b := 1) dL_law_1643 ?_
  refine l_sc S hU hX hbl hbA (j := (i + 1)) (by omega) hL31 dL_law_1644 ?_
  refine lv_aload_n hxe hcd dL_law_1645 rfl (lv_at hl 3 rfl) ?_
  refine l_J hZ S hU (As := [.ref (A (0, 14)), .int (xs (i + 1)), .ref aj]) (rest := []) (t_L_capacity l hl0 hZ hZX hNC aj f A g μ H.size hVG hR (xs (i + 1))) lk_L_capacity hl.1 rfl rfl (Nat.le_of_ble_eq_true rfl) ⟨(Nat.le_of_ble_eq_true rfl), (Nat.le_of_ble_eq_true rfl)⟩ ⟨hc, hs⟩ dL_law_1646 (fun r u H locs hC hU => ?_)
  refine lv_istore (lv' := [(6, .int r), (0, .ref b), (1, .ref (A (0, 14))), (2, .ref (B 0)), (3, .ref aj), (4, .ref ad), (5, .int (nI i))]) hxe hcd dL_law_1649 hl (by decide) rfl (fun ls hl => ?_)
  refine lv_aload_n hxe hcd dL_law_1651 rfl (lv_at hl 3 rfl) ?_
  refine lv_aload_n hxe hcd dL_law_1652 rfl (lv_at hl 1 rfl) ?_
  refine lv_iload hxe hcd dL_law_1653 (lv_at hl 6 rfl) ?_
  refine lv_iconst (v := (nI 1)) hxe hcd dL_law_1655 (by decide) ?_
  refine n_iadd S (a := i) (b := 1) dL_law_1656 ?_
  refine l_sc S hU hX hbl hbA (j := (i + 1)) (by omega) hL31 dL_law_1657 ?_
  refine l_Mi hZ S hU (As := [.int (xs (i + 1))]) (rest := []) (t_X10_capacity l hZ B ν H.size hVG.2.1.1 hVG.2.1.2 (xs (i + 1))) k_L_240 (l_rm hU) hl.1 rfl rfl (Nat.le_of_ble_eq_true rfl) ⟨(Nat.le_of_ble_eq_true rfl), (Nat.le_of_ble_eq_true rfl)⟩ ⟨hc, hs⟩ dL_law_1658 (fun rb ω H locs hM hU => ?_)
  obtain ⟨hCR2, hA2, hth, hres⟩ := j_capacity hCR hkr hc8 hch hHR  (v := ν 1) rfl hC hM
  refine lv_istore (lv' := [(7, .int rb), (6, .int r), (0, .ref b), (1, .ref (A (0, 14))), (2, .ref (B 0)), (3, .ref aj), (4, .ref ad), (5, .int (nI i))]) hxe hcd dL_law_1661 hl (by decide) rfl (fun ls hl => ?_)
  refine lv_aload_n hxe hcd dL_law_1663 rfl (lv_at hl 4 rfl) ?_
  refine l_T hZ S hU (As := []) (rest := []) (t_X10_thrown l hZ B ω H.size) k_L_158 (l_rm hU) hl.1 rfl rfl (Nat.le_of_ble_eq_true rfl) ⟨(Nat.le_of_ble_eq_true rfl), (Nat.le_of_ble_eq_true rfl)⟩ ⟨hc, hs⟩ dL_law_1664 (fun r3 H locs h3 hU => ?_)
  have h3 := h3.symm
  subst h3
  refine r_as hth ?_
  refine lv_iload hxe hcd dL_law_1667 (lv_at hl 1 rfl) ?_
  refine lv_icmp_eq (tgt := 1674) hxe hcd dL_law_1669 (by decide) (fun _ => ?_) (fun h => absurd rfl h)
  refine lv_iload hxe hcd dL_law_1674 (lv_at hl 1 rfl) ?_
  refine lv_if_ne (tgt := 1691) hxe hcd dL_law_1676 (by decide) (fun hk => ?_) (fun hk => ?_)
  · refine lv_goto (tgt := 2709) hxe hcd dL_law_1691 (by decide) ?_
    exact kk u.1 ω u.2 fd H locs ls hU hCR2 hA2 (lv_sub hl [2, 3, 4, 5, 6, 7] rfl)
  · have hres := hres hk
    refine lv_aload_n hxe hcd dL_law_1679 rfl (lv_at hl 5 rfl) ?_
    refine lv_iconst (v := (nI 0)) hxe hcd dL_law_1680 (by decide) ?_
    refine l_jld S hU dL_law_1681 ?_
    refine lv_iload hxe hcd dL_law_1682 (lv_at hl 0 rfl) ?_
    refine lv_i2l (v := rb.toInt64) hxe hcd dL_law_1684 rfl ?_
    refine W.lcmp hxe hcd dL_law_1685 ?_
    refine r_as (y := 0) (by rw [hres]; exact lgc_self _) ?_
    refine lv_if_eq (tgt := 1691) hxe hcd dL_law_1686 (by decide) (fun _ => ?_) (fun h => absurd rfl h)
    refine lv_goto (tgt := 2709) hxe hcd dL_law_1691 (by decide) ?_
    exact kk u.1 ω u.2 fd H locs ls hU hCR2 hA2 (lv_sub hl [2, 3, 4, 5, 6, 7] rfl)
theorem lk_L_tuning : lkW RL 241 yL_tuning cL_tuning 4 [(0, 9, 12, 21)] 3 := ⟨g_966, g_967, g_66, g_968, ⟨by decide +kernel, by decide +kernel, by decide +kernel⟩⟩
set_option maxHeartbeats 4000000 in
set_option maxRecDepth 100000 in
theorem c_25 (l : Launch) (hl0 : l.stackTraces = false) {Z : ZT} (hZ : zOK Z) (hZX : ZX Z) (hNC : XNC Z) {wd : WDT} (hw : ZW Z wd) {p : Program} {e : Env} {s : State} {m : MethodId} {below : List Frame} {meth : Method} {c : Code} {b : Nat} (S : CallFix p m c cL_law 9 s #[Value.ref b] GT RL) {L : Nat} {xs : Nat → Int32} (hX : va_X b L xs s s.heap) (hbl : b < s.heap.size) (hL31 : L < 2 ^ 31) {A0 : Nat → Prop} (hbA : ¬ A0 b) {aj ad : Nat} {B : Nat → Nat} {Q : State → Prop} {g : Nat → Bool} {A : Nat × Nat → Nat} {μ : CM} {ν : MM} {f : Nat → Int64} {fd : Nat → UInt64} {H : Heap} {locs : List Loc} {ls : Array Slot} {i cells slots : Nat} (hU : wW Z (LW Z aj ad B (g, A, μ) ν f fd) A0 s H locs) (hCR : CR (g, A, μ) ν) (hi : i + 4 < L) (hl : lv_has ls 9 [(0, .ref b), (1, .ref (A (0, 14))), (2, .ref (B 0)), (3, .ref aj), (4, .ref ad), (5, .int (nI i))]) (hc : cells + 15 ≤ 603072) (hs : slots + 1376 ≤ 7190633)
  (kk : ∀ (v' : GM) (ν' : MM) (f' : Nat → Int64) (fd' : Nat → UInt64) (H' : Heap) (locs' : List Loc) (ls' : Array Slot), wW Z (LW Z aj ad B v' ν' f' fd') A0 s H' locs' → CR v' ν' → v'.2.1 (0, 14) = A (0, 14) → lv_has ls' 9 [(0, .ref b), (1, .ref (A (0, 14))), (2, .ref (B 0)), (3, .ref aj), (4, .ref ad), (5, .int (nI i))] → W p l e room_1 s m #[Value.ref b] below meth c H' locs' (cells + 15) (slots + 1376) Q (F0 m 2709 ls' [])) : W p l e room_1 s m #[Value.ref b] below meth c H locs cells slots Q (F0 m 1694 ls []) := by
  have hxe := S.1
  have hcd := S.2.1
  obtain ⟨hVG, hR, ⟨kr, cn, hkr, hc8, hk15, hcn, hch, hHR⟩, ⟨sv, hs4, hsv1, hm9, hsn⟩, ⟨tn, t, ht17, ht22, htn60, htx⟩, ⟨lN, hl20, hl26, hlN80, hlx⟩, ⟨he10, he11, hep2, hep3⟩, ⟨hwd, hwa⟩⟩ := id hCR
  have hR : RP (μ 0) (ν 1) := hR
  have hk15 : μ 0 15 1 = nI kr := hk15
  have hcn : μ 0 15 2 = nI cn := hcn
  have hHR : HR g μ kr cn (ν 5) := hHR
  have hm9 : μ 0 14 9 = nI sv := hm9
  have hsn : sv = 1 → VG (ν 3) ∧ RP (μ 2) (ν 3) := hsn
  have ht22 : μ 0 22 1 = nI tn := ht22
  have htx : ∀ j, j < tn → ν 8 j = nI (t j) ∧ μ 0 23 j = nI (t j) ∧ t j < 128 := htx
  have hl26 : μ 0 26 1 = nI lN := hl26
  have hlx : ∀ j, j < lN → ν 9 j = μ 0 27 j ∧ CH (ν 9 j) := hlx
  refine lv_aload_n hxe hcd dL_law_1694 rfl (lv_at hl 1 rfl) ?_
  refine lv_aload_n hxe hcd dL_law_1695 rfl (lv_at hl 0 rfl) ?_
  refine lv_iload hxe hcd dL_law_1696 (lv_at hl 5 rfl) ?_
  refine lv_iconst (v := (nI 1)) hxe hcd dL_law_1698 (by decide) ?_
  refine n_iadd S (a := i) (b := 1) dL_law_1699 ?_
  refine l_sc S hU hX hbl hbA (j := (i + 1)) (by omega) hL31 dL_law_1700 ?_
  refine lv_aload_n hxe hcd dL_law_1701 rfl (lv_at hl 3 rfl) ?_
  refine l_J hZ S hU (As := [.ref (A (0, 14)), .int (xs (i + 1)), .ref aj]) (rest := []) (t_L_tuning l hl0 hZ hZX hNC aj f A g μ H.size hVG hR (xs (i + 1))) lk_L_tuning hl.1 rfl rfl (Nat.le_of_ble_eq_true rfl) ⟨(Nat.le_of_ble_eq_true rfl), (Nat.le_of_ble_eq_true rfl)⟩ ⟨hc, hs⟩ dL_law_1702 (fun r u H locs hC hU => ?_)
  refine lv_istore (lv' := [(6, .int r), (0, .ref b), (1, .ref (A (0, 14))), (2, .ref (B 0)), (3, .ref aj), (4, .ref ad), (5, .int (nI i))]) hxe hcd dL_law_1705 hl (by decide) rfl (fun ls hl => ?_)
  refine lv_aload_n hxe hcd dL_law_1707 rfl (lv_at hl 3 rfl) ?_
  refine lv_aload_n hxe hcd dL_law_1708 rfl (lv_at hl 1 rfl) ?_
  refine lv_iload hxe hcd dL_law_1709 (lv_at hl 6 rfl) ?_
  refine lv_iconst (v := (nI 1)) hxe hcd dL_law_1711 (by decide) ?_
  refine n_iadd S (a := i) (b := 1) dL_law_1712 ?_
  refine l_sc S hU hX hbl hbA (j := (i + 1)) (by omega) hL31 dL_law_1713 ?_
  refine l_Mi hZ S hU (As := [.int (xs (i + 1))]) (rest := []) (t_X10_tuning l hZ B ν H.size hVG.2.1.1 hVG.2.1.2 (xs (i + 1))) k_L_243 (l_rm hU) hl.1 rfl rfl (Nat.le_of_ble_eq_true rfl) ⟨(Nat.le_of_ble_eq_true rfl), (Nat.le_of_ble_eq_true rfl)⟩ ⟨hc, hs⟩ dL_law_1714 (fun rb ω H locs hM hU => ?_)
  obtain ⟨hCR2, hA2, hth, hres⟩ := j_tuning hCR hkr hc8 hch hHR  (v := ν 1) rfl hC hM
  refine lv_istore (lv' := [(7, .int rb), (6, .int r), (0, .ref b), (1, .ref (A (0, 14))), (2, .ref (B 0)), (3, .ref aj), (4, .ref ad), (5, .int (nI i))]) hxe hcd dL_law_1717 hl (by decide) rfl (fun ls hl => ?_)
  refine lv_aload_n hxe hcd dL_law_1719 rfl (lv_at hl 4 rfl) ?_
  refine l_T hZ S hU (As := []) (rest := []) (t_X10_thrown l hZ B ω H.size) k_L_158 (l_rm hU) hl.1 rfl rfl (Nat.le_of_ble_eq_true rfl) ⟨(Nat.le_of_ble_eq_true rfl), (Nat.le_of_ble_eq_true rfl)⟩ ⟨hc, hs⟩ dL_law_1720 (fun r3 H locs h3 hU => ?_)
  have h3 := h3.symm
  subst h3
  refine r_as hth ?_
  refine lv_iload hxe hcd dL_law_1723 (lv_at hl 1 rfl) ?_
  refine lv_icmp_eq (tgt := 1730) hxe hcd dL_law_1725 (by decide) (fun _ => ?_) (fun h => absurd rfl h)
  refine lv_iload hxe hcd dL_law_1730 (lv_at hl 1 rfl) ?_
  refine lv_if_ne (tgt := 1747) hxe hcd dL_law_1732 (by decide) (fun hk => ?_) (fun hk => ?_)
  · refine lv_goto (tgt := 2709) hxe hcd dL_law_1747 (by decide) ?_
    exact kk u.1 ω u.2 fd H locs ls hU hCR2 hA2 (lv_sub hl [2, 3, 4, 5, 6, 7] rfl)
  · have hres := hres hk
    refine lv_aload_n hxe hcd dL_law_1735 rfl (lv_at hl 5 rfl) ?_
    refine lv_iconst (v := (nI 0)) hxe hcd dL_law_1736 (by decide) ?_
    refine l_jld S hU dL_law_1737 ?_
    refine lv_iload hxe hcd dL_law_1738 (lv_at hl 0 rfl) ?_
    refine lv_i2l (v := rb.toInt64) hxe hcd dL_law_1740 rfl ?_
    refine W.lcmp hxe hcd dL_law_1741 ?_
    refine r_as (y := 0) (by rw [hres]; exact lgc_self _) ?_
    refine lv_if_eq (tgt := 1747) hxe hcd dL_law_1742 (by decide) (fun _ => ?_) (fun h => absurd rfl h)
    refine lv_goto (tgt := 2709) hxe hcd dL_law_1747 (by decide) ?_
    exact kk u.1 ω u.2 fd H locs ls hU hCR2 hA2 (lv_sub hl [2, 3, 4, 5, 6, 7] rfl)
theorem lk_L_level : lkW RL 244 yL_level cL_level 4 [(0, 9, 12, 21)] 3 := ⟨g_973, g_974, g_66, g_975, ⟨by decide +kernel, by decide +kernel, by decide +kernel⟩⟩
set_option maxHeartbeats 4000000 in
set_option maxRecDepth 100000 in
theorem c_26 (l : Launch) (hl0 : l.stackTraces = false) {Z : ZT} (hZ : zOK Z) (hZX : ZX Z) (hNC : XNC Z) {wd : WDT} (hw : ZW Z wd) {p : Program} {e : Env} {s : State} {m : MethodId} {below : List Frame} {meth : Method} {c : Code} {b : Nat} (S : CallFix p m c cL_law 9 s #[Value.ref b] GT RL) {L : Nat} {xs : Nat → Int32} (hX : va_X b L xs s s.heap) (hbl : b < s.heap.size) (hL31 : L < 2 ^ 31) {A0 : Nat → Prop} (hbA : ¬ A0 b) {aj ad : Nat} {B : Nat → Nat} {Q : State → Prop} {g : Nat → Bool} {A : Nat × Nat → Nat} {μ : CM} {ν : MM} {f : Nat → Int64} {fd : Nat → UInt64} {H : Heap} {locs : List Loc} {ls : Array Slot} {i cells slots : Nat} (hU : wW Z (LW Z aj ad B (g, A, μ) ν f fd) A0 s H locs) (hCR : CR (g, A, μ) ν) (hi : i + 4 < L) (hl : lv_has ls 9 [(0, .ref b), (1, .ref (A (0, 14))), (2, .ref (B 0)), (3, .ref aj), (4, .ref ad), (5, .int (nI i))]) (hc : cells + 15 ≤ 603072) (hs : slots + 1376 ≤ 7190633)
  (kk : ∀ (v' : GM) (ν' : MM) (f' : Nat → Int64) (fd' : Nat → UInt64) (H' : Heap) (locs' : List Loc) (ls' : Array Slot), wW Z (LW Z aj ad B v' ν' f' fd') A0 s H' locs' → CR v' ν' → v'.2.1 (0, 14) = A (0, 14) → lv_has ls' 9 [(0, .ref b), (1, .ref (A (0, 14))), (2, .ref (B 0)), (3, .ref aj), (4, .ref ad), (5, .int (nI i))] → W p l e room_1 s m #[Value.ref b] below meth c H' locs' (cells + 15) (slots + 1376) Q (F0 m 2709 ls' [])) : W p l e room_1 s m #[Value.ref b] below meth c H locs cells slots Q (F0 m 1750 ls []) := by
  have hxe := S.1
  have hcd := S.2.1
  obtain ⟨hVG, hR, ⟨kr, cn, hkr, hc8, hk15, hcn, hch, hHR⟩, ⟨sv, hs4, hsv1, hm9, hsn⟩, ⟨tn, t, ht17, ht22, htn60, htx⟩, ⟨lN, hl20, hl26, hlN80, hlx⟩, ⟨he10, he11, hep2, hep3⟩, ⟨hwd, hwa⟩⟩ := id hCR
  have hR : RP (μ 0) (ν 1) := hR
  have hk15 : μ 0 15 1 = nI kr := hk15
  have hcn : μ 0 15 2 = nI cn := hcn
  have hHR : HR g μ kr cn (ν 5) := hHR
  have hm9 : μ 0 14 9 = nI sv := hm9
  have hsn : sv = 1 → VG (ν 3) ∧ RP (μ 2) (ν 3) := hsn
  have ht22 : μ 0 22 1 = nI tn := ht22
  have htx : ∀ j, j < tn → ν 8 j = nI (t j) ∧ μ 0 23 j = nI (t j) ∧ t j < 128 := htx
  have hl26 : μ 0 26 1 = nI lN := hl26
  have hlx : ∀ j, j < lN → ν 9 j = μ 0 27 j ∧ CH (ν 9 j) := hlx
  refine lv_aload_n hxe hcd dL_law_1750 rfl (lv_at hl 1 rfl) ?_
  refine lv_aload_n hxe hcd dL_law_1751 rfl (lv_at hl 0 rfl) ?_
  refine lv_iload hxe hcd dL_law_1752 (lv_at hl 5 rfl) ?_
  refine lv_iconst (v := (nI 1)) hxe hcd dL_law_1754 (by decide) ?_
  refine n_iadd S (a := i) (b := 1) dL_law_1755 ?_
  refine l_sc S hU hX hbl hbA (j := (i + 1)) (by omega) hL31 dL_law_1756 ?_
  refine lv_aload_n hxe hcd dL_law_1757 rfl (lv_at hl 3 rfl) ?_
  refine l_J hZ S hU (As := [.ref (A (0, 14)), .int (xs (i + 1)), .ref aj]) (rest := []) (t_L_level l hl0 hZ hZX hNC aj f A g μ H.size hVG hR (xs (i + 1))) lk_L_level hl.1 rfl rfl (Nat.le_of_ble_eq_true rfl) ⟨(Nat.le_of_ble_eq_true rfl), (Nat.le_of_ble_eq_true rfl)⟩ ⟨hc, hs⟩ dL_law_1758 (fun r u H locs hC hU => ?_)
  refine lv_istore (lv' := [(6, .int r), (0, .ref b), (1, .ref (A (0, 14))), (2, .ref (B 0)), (3, .ref aj), (4, .ref ad), (5, .int (nI i))]) hxe hcd dL_law_1761 hl (by decide) rfl (fun ls hl => ?_)
  refine lv_aload_n hxe hcd dL_law_1763 rfl (lv_at hl 3 rfl) ?_
  refine lv_aload_n hxe hcd dL_law_1764 rfl (lv_at hl 1 rfl) ?_
  refine lv_iload hxe hcd dL_law_1765 (lv_at hl 6 rfl) ?_
  refine lv_iconst (v := (nI 1)) hxe hcd dL_law_1767 (by decide) ?_
  refine n_iadd S (a := i) (b := 1) dL_law_1768 ?_
  refine l_sc S hU hX hbl hbA (j := (i + 1)) (by omega) hL31 dL_law_1769 ?_
  refine l_Mi hZ S hU (As := [.int (xs (i + 1))]) (rest := []) (t_X10_level l hZ B ν H.size hVG.2.1.1 hVG.2.1.2 (xs (i + 1))) k_L_246 (l_rm hU) hl.1 rfl rfl (Nat.le_of_ble_eq_true rfl) ⟨(Nat.le_of_ble_eq_true rfl), (Nat.le_of_ble_eq_true rfl)⟩ ⟨hc, hs⟩ dL_law_1770 (fun rb ω H locs hM hU => ?_)
  obtain ⟨hCR2, hA2, hth, hres⟩ := j_level hCR hkr hc8 hch hHR  (v := ν 1) rfl hC hM
  refine lv_istore (lv' := [(7, .int rb), (6, .int r), (0, .ref b), (1, .ref (A (0, 14))), (2, .ref (B 0)), (3, .ref aj), (4, .ref ad), (5, .int (nI i))]) hxe hcd dL_law_1773 hl (by decide) rfl (fun ls hl => ?_)
  refine lv_aload_n hxe hcd dL_law_1775 rfl (lv_at hl 4 rfl) ?_
  refine l_T hZ S hU (As := []) (rest := []) (t_X10_thrown l hZ B ω H.size) k_L_158 (l_rm hU) hl.1 rfl rfl (Nat.le_of_ble_eq_true rfl) ⟨(Nat.le_of_ble_eq_true rfl), (Nat.le_of_ble_eq_true rfl)⟩ ⟨hc, hs⟩ dL_law_1776 (fun r3 H locs h3 hU => ?_)
  have h3 := h3.symm
  subst h3
  refine r_as hth ?_
  refine lv_iload hxe hcd dL_law_1779 (lv_at hl 1 rfl) ?_
  refine lv_icmp_eq (tgt := 1786) hxe hcd dL_law_1781 (by decide) (fun _ => ?_) (fun h => absurd rfl h)
  refine lv_iload hxe hcd dL_law_1786 (lv_at hl 1 rfl) ?_
  refine lv_if_ne (tgt := 1803) hxe hcd dL_law_1788 (by decide) (fun hk => ?_) (fun hk => ?_)
  · refine lv_goto (tgt := 2709) hxe hcd dL_law_1803 (by decide) ?_
    exact kk u.1 ω u.2 fd H locs ls hU hCR2 hA2 (lv_sub hl [2, 3, 4, 5, 6, 7] rfl)
  · have hres := hres hk
    refine lv_aload_n hxe hcd dL_law_1791 rfl (lv_at hl 5 rfl) ?_
    refine lv_iconst (v := (nI 0)) hxe hcd dL_law_1792 (by decide) ?_
    refine l_jld S hU dL_law_1793 ?_
    refine lv_iload hxe hcd dL_law_1794 (lv_at hl 0 rfl) ?_
    refine lv_i2l (v := rb.toInt64) hxe hcd dL_law_1796 rfl ?_
    refine W.lcmp hxe hcd dL_law_1797 ?_
    refine r_as (y := 0) (by rw [hres]; exact lgc_self _) ?_
    refine lv_if_eq (tgt := 1803) hxe hcd dL_law_1798 (by decide) (fun _ => ?_) (fun h => absurd rfl h)
    refine lv_goto (tgt := 2709) hxe hcd dL_law_1803 (by decide) ?_
    exact kk u.1 ω u.2 fd H locs ls hU hCR2 hA2 (lv_sub hl [2, 3, 4, 5, 6, 7] rfl)
theorem lk_L_frameLoudness : lkW RL 247 yL_frameLoudness cL_frameLoudness 5 [(0, 10, 13, 21), (0, 10, 17, 45)] 4 := ⟨g_980, g_981, g_66, g_982, ⟨by decide +kernel, by decide +kernel, by decide +kernel⟩⟩
set_option maxHeartbeats 4000000 in
set_option maxRecDepth 100000 in
theorem c_27 (l : Launch) (hl0 : l.stackTraces = false) {Z : ZT} (hZ : zOK Z) (hZX : ZX Z) (hNC : XNC Z) {wd : WDT} (hw : ZW Z wd) {p : Program} {e : Env} {s : State} {m : MethodId} {below : List Frame} {meth : Method} {c : Code} {b : Nat} (S : CallFix p m c cL_law 9 s #[Value.ref b] GT RL) {L : Nat} {xs : Nat → Int32} (hX : va_X b L xs s s.heap) (hbl : b < s.heap.size) (hL31 : L < 2 ^ 31) {A0 : Nat → Prop} (hbA : ¬ A0 b) {aj ad : Nat} {B : Nat → Nat} {Q : State → Prop} {g : Nat → Bool} {A : Nat × Nat → Nat} {μ : CM} {ν : MM} {f : Nat → Int64} {fd : Nat → UInt64} {H : Heap} {locs : List Loc} {ls : Array Slot} {i cells slots : Nat} (hU : wW Z (LW Z aj ad B (g, A, μ) ν f fd) A0 s H locs) (hCR : CR (g, A, μ) ν) (hi : i + 4 < L) (hl : lv_has ls 9 [(0, .ref b), (1, .ref (A (0, 14))), (2, .ref (B 0)), (3, .ref aj), (4, .ref ad), (5, .int (nI i))]) (hc : cells + 15 ≤ 603072) (hs : slots + 1376 ≤ 7190633)
  (kk : ∀ (v' : GM) (ν' : MM) (f' : Nat → Int64) (fd' : Nat → UInt64) (H' : Heap) (locs' : List Loc) (ls' : Array Slot), wW Z (LW Z aj ad B v' ν' f' fd') A0 s H' locs' → CR v' ν' → v'.2.1 (0, 14) = A (0, 14) → lv_has ls' 9 [(0, .ref b), (1, .ref (A (0, 14))), (2, .ref (B 0)), (3, .ref aj), (4, .ref ad), (5, .int (nI i))] → W p l e room_1 s m #[Value.ref b] below meth c H' locs' (cells + 15) (slots + 1376) Q (F0 m 2709 ls' [])) : W p l e room_1 s m #[Value.ref b] below meth c H locs cells slots Q (F0 m 1806 ls []) := by
  have hxe := S.1
  have hcd := S.2.1
  obtain ⟨hVG, hR, ⟨kr, cn, hkr, hc8, hk15, hcn, hch, hHR⟩, ⟨sv, hs4, hsv1, hm9, hsn⟩, ⟨tn, t, ht17, ht22, htn60, htx⟩, ⟨lN, hl20, hl26, hlN80, hlx⟩, ⟨he10, he11, hep2, hep3⟩, ⟨hwd, hwa⟩⟩ := id hCR
  have hR : RP (μ 0) (ν 1) := hR
  have hk15 : μ 0 15 1 = nI kr := hk15
  have hcn : μ 0 15 2 = nI cn := hcn
  have hHR : HR g μ kr cn (ν 5) := hHR
  have hm9 : μ 0 14 9 = nI sv := hm9
  have hsn : sv = 1 → VG (ν 3) ∧ RP (μ 2) (ν 3) := hsn
  have ht22 : μ 0 22 1 = nI tn := ht22
  have htx : ∀ j, j < tn → ν 8 j = nI (t j) ∧ μ 0 23 j = nI (t j) ∧ t j < 128 := htx
  have hl26 : μ 0 26 1 = nI lN := hl26
  have hlx : ∀ j, j < lN → ν 9 j = μ 0 27 j ∧ CH (ν 9 j) := hlx
  refine lv_aload_n hxe hcd dL_law_1806 rfl (lv_at hl 1 rfl) ?_
  refine lv_aload_n hxe hcd dL_law_1807 rfl (lv_at hl 0 rfl) ?_
  refine lv_iload hxe hcd dL_law_1808 (lv_at hl 5 rfl) ?_
  refine lv_iconst (v := (nI 1)) hxe hcd dL_law_1810 (by decide) ?_
  refine n_iadd S (a := i) (b := 1) dL_law_1811 ?_
  refine l_sc S hU hX hbl hbA (j := (i + 1)) (by omega) hL31 dL_law_1812 ?_
  refine lv_aload_n hxe hcd dL_law_1813 rfl (lv_at hl 0 rfl) ?_
  refine lv_iload hxe hcd dL_law_1814 (lv_at hl 5 rfl) ?_
  refine lv_iconst (v := (nI 2)) hxe hcd dL_law_1816 (by decide) ?_
  refine n_iadd S (a := i) (b := 2) dL_law_1817 ?_
  refine l_sc S hU hX hbl hbA (j := (i + 2)) (by omega) hL31 dL_law_1818 ?_
  refine lv_aload_n hxe hcd dL_law_1819 rfl (lv_at hl 3 rfl) ?_
  refine l_J hZ S hU (As := [.ref (A (0, 14)), .int (xs (i + 1)), .int (xs (i + 2)), .ref aj]) (rest := []) (t_L_frameLoudness l hl0 hZ hZX hNC aj f A g μ H.size hVG hR (xs (i + 1)) (xs (i + 2))) lk_L_frameLoudness hl.1 rfl rfl (Nat.le_of_ble_eq_true rfl) ⟨(Nat.le_of_ble_eq_true rfl), (Nat.le_of_ble_eq_true rfl)⟩ ⟨hc, hs⟩ dL_law_1820 (fun r u H locs hC hU => ?_)
  refine lv_istore (lv' := [(6, .int r), (0, .ref b), (1, .ref (A (0, 14))), (2, .ref (B 0)), (3, .ref aj), (4, .ref ad), (5, .int (nI i))]) hxe hcd dL_law_1823 hl (by decide) rfl (fun ls hl => ?_)
  refine lv_aload_n hxe hcd dL_law_1825 rfl (lv_at hl 3 rfl) ?_
  refine lv_aload_n hxe hcd dL_law_1826 rfl (lv_at hl 1 rfl) ?_
  refine lv_iload hxe hcd dL_law_1827 (lv_at hl 6 rfl) ?_
  refine lv_iconst (v := (nI 1)) hxe hcd dL_law_1829 (by decide) ?_
  refine n_iadd S (a := i) (b := 1) dL_law_1830 ?_
  refine l_sc S hU hX hbl hbA (j := (i + 1)) (by omega) hL31 dL_law_1831 ?_
  refine lv_aload_n hxe hcd dL_law_1832 rfl (lv_at hl 1 rfl) ?_
  refine lv_iload hxe hcd dL_law_1833 (lv_at hl 6 rfl) ?_
  refine lv_iconst (v := (nI 2)) hxe hcd dL_law_1835 (by decide) ?_
  refine n_iadd S (a := i) (b := 2) dL_law_1836 ?_
  refine l_sc S hU hX hbl hbA (j := (i + 2)) (by omega) hL31 dL_law_1837 ?_
  refine l_Mi hZ S hU (As := [.int (xs (i + 1)), .int (xs (i + 2))]) (rest := []) (t_X10_frameLoudness l hZ B ν H.size hVG.2.1.1 hVG.2.1.2 (cpN (ν 1)) (lvN (ν 1)) hVG.2.2.2.2.2.2.2.1 (xs (i + 1)) (xs (i + 2))) k_L_249 (l_rm hU) hl.1 rfl rfl (Nat.le_of_ble_eq_true rfl) ⟨(Nat.le_of_ble_eq_true rfl), (Nat.le_of_ble_eq_true rfl)⟩ ⟨hc, hs⟩ dL_law_1838 (fun rb ω H locs hM hU => ?_)
  obtain ⟨hCR2, hA2, hth, hres⟩ := j_frameLoudness hCR hkr hc8 hch hHR  (v := ν 1) rfl hC hM
  refine lv_istore (lv' := [(7, .int rb), (6, .int r), (0, .ref b), (1, .ref (A (0, 14))), (2, .ref (B 0)), (3, .ref aj), (4, .ref ad), (5, .int (nI i))]) hxe hcd dL_law_1841 hl (by decide) rfl (fun ls hl => ?_)
  refine lv_aload_n hxe hcd dL_law_1843 rfl (lv_at hl 4 rfl) ?_
  refine l_T hZ S hU (As := []) (rest := []) (t_X10_thrown l hZ B ω H.size) k_L_158 (l_rm hU) hl.1 rfl rfl (Nat.le_of_ble_eq_true rfl) ⟨(Nat.le_of_ble_eq_true rfl), (Nat.le_of_ble_eq_true rfl)⟩ ⟨hc, hs⟩ dL_law_1844 (fun r3 H locs h3 hU => ?_)
  have h3 := h3.symm
  subst h3
  refine r_as hth ?_
  refine lv_iload hxe hcd dL_law_1847 (lv_at hl 1 rfl) ?_
  refine lv_icmp_eq (tgt := 1854) hxe hcd dL_law_1849 (by decide) (fun _ => ?_) (fun h => absurd rfl h)
  refine lv_iload hxe hcd dL_law_1854 (lv_at hl 1 rfl) ?_
  refine lv_if_ne (tgt := 1871) hxe hcd dL_law_1856 (by decide) (fun hk => ?_) (fun hk => ?_)
  · refine lv_goto (tgt := 2709) hxe hcd dL_law_1871 (by decide) ?_
    exact kk u.1 ω u.2 fd H locs ls hU hCR2 hA2 (lv_sub hl [2, 3, 4, 5, 6, 7] rfl)
  · have hres := hres hk
    refine lv_aload_n hxe hcd dL_law_1859 rfl (lv_at hl 5 rfl) ?_
    refine lv_iconst (v := (nI 0)) hxe hcd dL_law_1860 (by decide) ?_
    refine l_jld S hU dL_law_1861 ?_
    refine lv_iload hxe hcd dL_law_1862 (lv_at hl 0 rfl) ?_
    refine lv_i2l (v := rb.toInt64) hxe hcd dL_law_1864 rfl ?_
    refine W.lcmp hxe hcd dL_law_1865 ?_
    refine r_as (y := 0) (by rw [hres]; exact lgc_self _) ?_
    refine lv_if_eq (tgt := 1871) hxe hcd dL_law_1866 (by decide) (fun _ => ?_) (fun h => absurd rfl h)
    refine lv_goto (tgt := 2709) hxe hcd dL_law_1871 (by decide) ?_
    exact kk u.1 ω u.2 fd H locs ls hU hCR2 hA2 (lv_sub hl [2, 3, 4, 5, 6, 7] rfl)
theorem lk_L_frameCount : lkW RL 250 yL_frameCount cL_frameCount 4 [(0, 9, 12, 21)] 3 := ⟨g_992, g_993, g_66, g_994, ⟨by decide +kernel, by decide +kernel, by decide +kernel⟩⟩
set_option maxHeartbeats 4000000 in
set_option maxRecDepth 100000 in
theorem c_28 (l : Launch) (hl0 : l.stackTraces = false) {Z : ZT} (hZ : zOK Z) (hZX : ZX Z) (hNC : XNC Z) {wd : WDT} (hw : ZW Z wd) {p : Program} {e : Env} {s : State} {m : MethodId} {below : List Frame} {meth : Method} {c : Code} {b : Nat} (S : CallFix p m c cL_law 9 s #[Value.ref b] GT RL) {L : Nat} {xs : Nat → Int32} (hX : va_X b L xs s s.heap) (hbl : b < s.heap.size) (hL31 : L < 2 ^ 31) {A0 : Nat → Prop} (hbA : ¬ A0 b) {aj ad : Nat} {B : Nat → Nat} {Q : State → Prop} {g : Nat → Bool} {A : Nat × Nat → Nat} {μ : CM} {ν : MM} {f : Nat → Int64} {fd : Nat → UInt64} {H : Heap} {locs : List Loc} {ls : Array Slot} {i cells slots : Nat} (hU : wW Z (LW Z aj ad B (g, A, μ) ν f fd) A0 s H locs) (hCR : CR (g, A, μ) ν) (hi : i + 4 < L) (hl : lv_has ls 9 [(0, .ref b), (1, .ref (A (0, 14))), (2, .ref (B 0)), (3, .ref aj), (4, .ref ad), (5, .int (nI i))]) (hc : cells + 15 ≤ 603072) (hs : slots + 1376 ≤ 7190633)
  (kk : ∀ (v' : GM) (ν' : MM) (f' : Nat → Int64) (fd' : Nat → UInt64) (H' : Heap) (locs' : List Loc) (ls' : Array Slot), wW Z (LW Z aj ad B v' ν' f' fd') A0 s H' locs' → CR v' ν' → v'.2.1 (0, 14) = A (0, 14) → lv_has ls' 9 [(0, .ref b), (1, .ref (A (0, 14))), (2, .ref (B 0)), (3, .ref aj), (4, .ref ad), (5, .int (nI i))] → W p l e room_1 s m #[Value.ref b] below meth c H' locs' (cells + 15) (slots + 1376) Q (F0 m 2709 ls' [])) : W p l e room_1 s m #[Value.ref b] below meth c H locs cells slots Q (F0 m 1874 ls []) := by
  have hxe := S.1
  have hcd := S.2.1
  obtain ⟨hVG, hR, ⟨kr, cn, hkr, hc8, hk15, hcn, hch, hHR⟩, ⟨sv, hs4, hsv1, hm9, hsn⟩, ⟨tn, t, ht17, ht22, htn60, htx⟩, ⟨lN, hl20, hl26, hlN80, hlx⟩, ⟨he10, he11, hep2, hep3⟩, ⟨hwd, hwa⟩⟩ := id hCR
  have hR : RP (μ 0) (ν 1) := hR
  have hk15 : μ 0 15 1 = nI kr := hk15
  have hcn : μ 0 15 2 = nI cn := hcn
  have hHR : HR g μ kr cn (ν 5) := hHR
  have hm9 : μ 0 14 9 = nI sv := hm9
  have hsn : sv = 1 → VG (ν 3) ∧ RP (μ 2) (ν 3) := hsn
  have ht22 : μ 0 22 1 = nI tn := ht22
  have htx : ∀ j, j < tn → ν 8 j = nI (t j) ∧ μ 0 23 j = nI (t j) ∧ t j < 128 := htx
  have hl26 : μ 0 26 1 = nI lN := hl26
  have hlx : ∀ j, j < lN → ν 9 j = μ 0 27 j ∧ CH (ν 9 j) := hlx
  refine lv_aload_n hxe hcd dL_law_1874 rfl (lv_at hl 1 rfl) ?_
  refine lv_aload_n hxe hcd dL_law_1875 rfl (lv_at hl 0 rfl) ?_
  refine lv_iload hxe hcd dL_law_1876 (lv_at hl 5 rfl) ?_
  refine lv_iconst (v := (nI 1)) hxe hcd dL_law_1878 (by decide) ?_
  refine n_iadd S (a := i) (b := 1) dL_law_1879 ?_
  refine l_sc S hU hX hbl hbA (j := (i + 1)) (by omega) hL31 dL_law_1880 ?_
  refine lv_aload_n hxe hcd dL_law_1881 rfl (lv_at hl 3 rfl) ?_
  refine l_J hZ S hU (As := [.ref (A (0, 14)), .int (xs (i + 1)), .ref aj]) (rest := []) (t_L_frameCount l hl0 hZ hZX hNC aj f A g μ H.size hVG hR (xs (i + 1))) lk_L_frameCount hl.1 rfl rfl (Nat.le_of_ble_eq_true rfl) ⟨(Nat.le_of_ble_eq_true rfl), (Nat.le_of_ble_eq_true rfl)⟩ ⟨hc, hs⟩ dL_law_1882 (fun r u H locs hC hU => ?_)
  refine lv_istore (lv' := [(6, .int r), (0, .ref b), (1, .ref (A (0, 14))), (2, .ref (B 0)), (3, .ref aj), (4, .ref ad), (5, .int (nI i))]) hxe hcd dL_law_1885 hl (by decide) rfl (fun ls hl => ?_)
  refine lv_aload_n hxe hcd dL_law_1887 rfl (lv_at hl 3 rfl) ?_
  refine lv_aload_n hxe hcd dL_law_1888 rfl (lv_at hl 1 rfl) ?_
  refine lv_iload hxe hcd dL_law_1889 (lv_at hl 6 rfl) ?_
  refine lv_iconst (v := (nI 1)) hxe hcd dL_law_1891 (by decide) ?_
  refine n_iadd S (a := i) (b := 1) dL_law_1892 ?_
  refine l_sc S hU hX hbl hbA (j := (i + 1)) (by omega) hL31 dL_law_1893 ?_
  refine l_Mi hZ S hU (As := [.int (xs (i + 1))]) (rest := []) (t_X10_frameCount l hZ B ν H.size (lnV (ν 1)) hVG.2.2.1 (xs (i + 1))) k_L_252 (l_rm hU) hl.1 rfl rfl (Nat.le_of_ble_eq_true rfl) ⟨(Nat.le_of_ble_eq_true rfl), (Nat.le_of_ble_eq_true rfl)⟩ ⟨hc, hs⟩ dL_law_1894 (fun rb ω H locs hM hU => ?_)
  obtain ⟨hCR2, hA2, hth, hres⟩ := j_frameCount hCR hkr hc8 hch hHR  (v := ν 1) rfl hC hM
  refine lv_istore (lv' := [(7, .int rb), (6, .int r), (0, .ref b), (1, .ref (A (0, 14))), (2, .ref (B 0)), (3, .ref aj), (4, .ref ad), (5, .int (nI i))]) hxe hcd dL_law_1897 hl (by decide) rfl (fun ls hl => ?_)
  refine lv_aload_n hxe hcd dL_law_1899 rfl (lv_at hl 4 rfl) ?_
  refine l_T hZ S hU (As := []) (rest := []) (t_X10_thrown l hZ B ω H.size) k_L_158 (l_rm hU) hl.1 rfl rfl (Nat.le_of_ble_eq_true rfl) ⟨(Nat.le_of_ble_eq_true rfl), (Nat.le_of_ble_eq_true rfl)⟩ ⟨hc, hs⟩ dL_law_1900 (fun r3 H locs h3 hU => ?_)
  have h3 := h3.symm
  subst h3
  refine r_as hth ?_
  refine lv_iload hxe hcd dL_law_1903 (lv_at hl 1 rfl) ?_
  refine lv_icmp_eq (tgt := 1910) hxe hcd dL_law_1905 (by decide) (fun _ => ?_) (fun h => absurd rfl h)
  refine lv_iload hxe hcd dL_law_1910 (lv_at hl 1 rfl) ?_
  refine lv_if_ne (tgt := 1927) hxe hcd dL_law_1912 (by decide) (fun hk => ?_) (fun hk => ?_)
  · refine lv_goto (tgt := 2709) hxe hcd dL_law_1927 (by decide) ?_
    exact kk u.1 ω u.2 fd H locs ls hU hCR2 hA2 (lv_sub hl [2, 3, 4, 5, 6, 7] rfl)
  · have hres := hres hk
    refine lv_aload_n hxe hcd dL_law_1915 rfl (lv_at hl 5 rfl) ?_
    refine lv_iconst (v := (nI 0)) hxe hcd dL_law_1916 (by decide) ?_
    refine l_jld S hU dL_law_1917 ?_
    refine lv_iload hxe hcd dL_law_1918 (lv_at hl 0 rfl) ?_
    refine lv_i2l (v := rb.toInt64) hxe hcd dL_law_1920 rfl ?_
    refine W.lcmp hxe hcd dL_law_1921 ?_
    refine r_as (y := 0) (by rw [hres]; exact lgc_self _) ?_
    refine lv_if_eq (tgt := 1927) hxe hcd dL_law_1922 (by decide) (fun _ => ?_) (fun h => absurd rfl h)
    refine lv_goto (tgt := 2709) hxe hcd dL_law_1927 (by decide) ?_
    exact kk u.1 ω u.2 fd H locs ls hU hCR2 hA2 (lv_sub hl [2, 3, 4, 5, 6, 7] rfl)
theorem lk_L_dropsFor : lkW RL 253 yL_dropsFor cL_dropsFor 4 [(0, 9, 12, 21)] 3 := ⟨g_999, g_1000, g_66, g_1001, ⟨by decide +kernel, by decide +kernel, by decide +kernel⟩⟩
set_option maxHeartbeats 4000000 in
set_option maxRecDepth 100000 in
theorem c_29 (l : Launch) (hl0 : l.stackTraces = false) {Z : ZT} (hZ : zOK Z) (hZX : ZX Z) (hNC : XNC Z) {wd : WDT} (hw : ZW Z wd) {p : Program} {e : Env} {s : State} {m : MethodId} {below : List Frame} {meth : Method} {c : Code} {b : Nat} (S : CallFix p m c cL_law 9 s #[Value.ref b] GT RL) {L : Nat} {xs : Nat → Int32} (hX : va_X b L xs s s.heap) (hbl : b < s.heap.size) (hL31 : L < 2 ^ 31) {A0 : Nat → Prop} (hbA : ¬ A0 b) {aj ad : Nat} {B : Nat → Nat} {Q : State → Prop} {g : Nat → Bool} {A : Nat × Nat → Nat} {μ : CM} {ν : MM} {f : Nat → Int64} {fd : Nat → UInt64} {H : Heap} {locs : List Loc} {ls : Array Slot} {i cells slots : Nat} (hU : wW Z (LW Z aj ad B (g, A, μ) ν f fd) A0 s H locs) (hCR : CR (g, A, μ) ν) (hi : i + 4 < L) (hl : lv_has ls 9 [(0, .ref b), (1, .ref (A (0, 14))), (2, .ref (B 0)), (3, .ref aj), (4, .ref ad), (5, .int (nI i))]) (hc : cells + 15 ≤ 603072) (hs : slots + 1376 ≤ 7190633)
  (kk : ∀ (v' : GM) (ν' : MM) (f' : Nat → Int64) (fd' : Nat → UInt64) (H' : Heap) (locs' : List Loc) (ls' : Array Slot), wW Z (LW Z aj ad B v' ν' f' fd') A0 s H' locs' → CR v' ν' → v'.2.1 (0, 14) = A (0, 14) → lv_has ls' 9 [(0, .ref b), (1, .ref (A (0, 14))), (2, .ref (B 0)), (3, .ref aj), (4, .ref ad), (5, .int (nI i))] → W p l e room_1 s m #[Value.ref b] below meth c H' locs' (cells + 15) (slots + 1376) Q (F0 m 2709 ls' [])) : W p l e room_1 s m #[Value.ref b] below meth c H locs cells slots Q (F0 m 1930 ls []) := by
  have hxe := S.1
  have hcd := S.2.1
  obtain ⟨hVG, hR, ⟨kr, cn, hkr, hc8, hk15, hcn, hch, hHR⟩, ⟨sv, hs4, hsv1, hm9, hsn⟩, ⟨tn, t, ht17, ht22, htn60, htx⟩, ⟨lN, hl20, hl26, hlN80, hlx⟩, ⟨he10, he11, hep2, hep3⟩, ⟨hwd, hwa⟩⟩ := id hCR
  have hR : RP (μ 0) (ν 1) := hR
  have hk15 : μ 0 15 1 = nI kr := hk15
  have hcn : μ 0 15 2 = nI cn := hcn
  have hHR : HR g μ kr cn (ν 5) := hHR
  have hm9 : μ 0 14 9 = nI sv := hm9
  have hsn : sv = 1 → VG (ν 3) ∧ RP (μ 2) (ν 3) := hsn
  have ht22 : μ 0 22 1 = nI tn := ht22
  have htx : ∀ j, j < tn → ν 8 j = nI (t j) ∧ μ 0 23 j = nI (t j) ∧ t j < 128 := htx
  have hl26 : μ 0 26 1 = nI lN := hl26
  have hlx : ∀ j, j < lN → ν 9 j = μ 0 27 j ∧ CH (ν 9 j) := hlx
  refine lv_aload_n hxe hcd dL_law_1930 rfl (lv_at hl 1 rfl) ?_
  refine lv_aload_n hxe hcd dL_law_1931 rfl (lv_at hl 0 rfl) ?_
  refine lv_iload hxe hcd dL_law_1932 (lv_at hl 5 rfl) ?_
  refine lv_iconst (v := (nI 1)) hxe hcd dL_law_1934 (by decide) ?_
  refine n_iadd S (a := i) (b := 1) dL_law_1935 ?_
  refine l_sc S hU hX hbl hbA (j := (i + 1)) (by omega) hL31 dL_law_1936 ?_
  refine lv_aload_n hxe hcd dL_law_1937 rfl (lv_at hl 3 rfl) ?_
  refine l_J hZ S hU (As := [.ref (A (0, 14)), .int (xs (i + 1)), .ref aj]) (rest := []) (t_L_dropsFor l hl0 hZ hZX hNC aj f A g μ H.size hVG hR (xs (i + 1))) lk_L_dropsFor hl.1 rfl rfl (Nat.le_of_ble_eq_true rfl) ⟨(Nat.le_of_ble_eq_true rfl), (Nat.le_of_ble_eq_true rfl)⟩ ⟨hc, hs⟩ dL_law_1938 (fun r u H locs hC hU => ?_)
  refine lv_istore (lv' := [(6, .int r), (0, .ref b), (1, .ref (A (0, 14))), (2, .ref (B 0)), (3, .ref aj), (4, .ref ad), (5, .int (nI i))]) hxe hcd dL_law_1941 hl (by decide) rfl (fun ls hl => ?_)
  refine lv_aload_n hxe hcd dL_law_1943 rfl (lv_at hl 3 rfl) ?_
  refine lv_aload_n hxe hcd dL_law_1944 rfl (lv_at hl 1 rfl) ?_
  refine lv_iload hxe hcd dL_law_1945 (lv_at hl 6 rfl) ?_
  refine lv_iconst (v := (nI 1)) hxe hcd dL_law_1947 (by decide) ?_
  refine n_iadd S (a := i) (b := 1) dL_law_1948 ?_
  refine l_sc S hU hX hbl hbA (j := (i + 1)) (by omega) hL31 dL_law_1949 ?_
  refine l_Mi hZ S hU (As := [.int (xs (i + 1))]) (rest := []) (t_X10_dropsFor l hZ B ν H.size (lnV (ν 1)) hVG.2.2.1 hVG.1.1 hVG.1.2 (psV (ν 1)) hVG.2.2.2.2.2.2.1 hVG.2.1.1 hVG.2.1.2 (cpN (ν 1)) (lvN (ν 1)) hVG.2.2.2.2.2.2.2.1 (xs (i + 1))) k_L_255 (l_rm hU) hl.1 rfl rfl (Nat.le_of_ble_eq_true rfl) ⟨(Nat.le_of_ble_eq_true rfl), (Nat.le_of_ble_eq_true rfl)⟩ ⟨hc, hs⟩ dL_law_1950 (fun rb ω H locs hM hU => ?_)
  obtain ⟨hCR2, hA2, hth, hres⟩ := j_dropsFor hCR hkr hc8 hch hHR  (v := ν 1) rfl hC hM
  refine lv_istore (lv' := [(7, .int rb), (6, .int r), (0, .ref b), (1, .ref (A (0, 14))), (2, .ref (B 0)), (3, .ref aj), (4, .ref ad), (5, .int (nI i))]) hxe hcd dL_law_1953 hl (by decide) rfl (fun ls hl => ?_)
  refine lv_aload_n hxe hcd dL_law_1955 rfl (lv_at hl 4 rfl) ?_
  refine l_T hZ S hU (As := []) (rest := []) (t_X10_thrown l hZ B ω H.size) k_L_158 (l_rm hU) hl.1 rfl rfl (Nat.le_of_ble_eq_true rfl) ⟨(Nat.le_of_ble_eq_true rfl), (Nat.le_of_ble_eq_true rfl)⟩ ⟨hc, hs⟩ dL_law_1956 (fun r3 H locs h3 hU => ?_)
  have h3 := h3.symm
  subst h3
  refine r_as hth ?_
  refine lv_iload hxe hcd dL_law_1959 (lv_at hl 1 rfl) ?_
  refine lv_icmp_eq (tgt := 1966) hxe hcd dL_law_1961 (by decide) (fun _ => ?_) (fun h => absurd rfl h)
  refine lv_iload hxe hcd dL_law_1966 (lv_at hl 1 rfl) ?_
  refine lv_if_ne (tgt := 1983) hxe hcd dL_law_1968 (by decide) (fun hk => ?_) (fun hk => ?_)
  · refine lv_goto (tgt := 2709) hxe hcd dL_law_1983 (by decide) ?_
    exact kk u.1 ω u.2 fd H locs ls hU hCR2 hA2 (lv_sub hl [2, 3, 4, 5, 6, 7] rfl)
  · have hres := hres hk
    refine lv_aload_n hxe hcd dL_law_1971 rfl (lv_at hl 5 rfl) ?_
    refine lv_iconst (v := (nI 0)) hxe hcd dL_law_1972 (by decide) ?_
    refine l_jld S hU dL_law_1973 ?_
    refine lv_iload hxe hcd dL_law_1974 (lv_at hl 0 rfl) ?_
    refine lv_i2l (v := rb.toInt64) hxe hcd dL_law_1976 rfl ?_
    refine W.lcmp hxe hcd dL_law_1977 ?_
    refine r_as (y := 0) (by rw [hres]; exact lgc_self _) ?_
    refine lv_if_eq (tgt := 1983) hxe hcd dL_law_1978 (by decide) (fun _ => ?_) (fun h => absurd rfl h)
    refine lv_goto (tgt := 2709) hxe hcd dL_law_1983 (by decide) ?_
    exact kk u.1 ω u.2 fd H locs ls hU hCR2 hA2 (lv_sub hl [2, 3, 4, 5, 6, 7] rfl)
theorem lk_L_dropsByLevels : lkW RL 256 yL_dropsByLevels cL_dropsByLevels 4 [(0, 9, 12, 21)] 3 := ⟨g_1006, g_1007, g_66, g_1008, ⟨by decide +kernel, by decide +kernel, by decide +kernel⟩⟩
set_option maxHeartbeats 4000000 in
set_option maxRecDepth 100000 in
theorem c_30 (l : Launch) (hl0 : l.stackTraces = false) {Z : ZT} (hZ : zOK Z) (hZX : ZX Z) (hNC : XNC Z) {wd : WDT} (hw : ZW Z wd) {p : Program} {e : Env} {s : State} {m : MethodId} {below : List Frame} {meth : Method} {c : Code} {b : Nat} (S : CallFix p m c cL_law 9 s #[Value.ref b] GT RL) {L : Nat} {xs : Nat → Int32} (hX : va_X b L xs s s.heap) (hbl : b < s.heap.size) (hL31 : L < 2 ^ 31) {A0 : Nat → Prop} (hbA : ¬ A0 b) {aj ad : Nat} {B : Nat → Nat} {Q : State → Prop} {g : Nat → Bool} {A : Nat × Nat → Nat} {μ : CM} {ν : MM} {f : Nat → Int64} {fd : Nat → UInt64} {H : Heap} {locs : List Loc} {ls : Array Slot} {i cells slots : Nat} (hU : wW Z (LW Z aj ad B (g, A, μ) ν f fd) A0 s H locs) (hCR : CR (g, A, μ) ν) (hi : i + 4 < L) (hl : lv_has ls 9 [(0, .ref b), (1, .ref (A (0, 14))), (2, .ref (B 0)), (3, .ref aj), (4, .ref ad), (5, .int (nI i))]) (hc : cells + 15 ≤ 603072) (hs : slots + 1376 ≤ 7190633)
  (kk : ∀ (v' : GM) (ν' : MM) (f' : Nat → Int64) (fd' : Nat → UInt64) (H' : Heap) (locs' : List Loc) (ls' : Array Slot), wW Z (LW Z aj ad B v' ν' f' fd') A0 s H' locs' → CR v' ν' → v'.2.1 (0, 14) = A (0, 14) → lv_has ls' 9 [(0, .ref b), (1, .ref (A (0, 14))), (2, .ref (B 0)), (3, .ref aj), (4, .ref ad), (5, .int (nI i))] → W p l e room_1 s m #[Value.ref b] below meth c H' locs' (cells + 15) (slots + 1376) Q (F0 m 2709 ls' [])) : W p l e room_1 s m #[Value.ref b] below meth c H locs cells slots Q (F0 m 1986 ls []) := by
  have hxe := S.1
  have hcd := S.2.1
  obtain ⟨hVG, hR, ⟨kr, cn, hkr, hc8, hk15, hcn, hch, hHR⟩, ⟨sv, hs4, hsv1, hm9, hsn⟩, ⟨tn, t, ht17, ht22, htn60, htx⟩, ⟨lN, hl20, hl26, hlN80, hlx⟩, ⟨he10, he11, hep2, hep3⟩, ⟨hwd, hwa⟩⟩ := id hCR
  have hR : RP (μ 0) (ν 1) := hR
  have hk15 : μ 0 15 1 = nI kr := hk15
  have hcn : μ 0 15 2 = nI cn := hcn
  have hHR : HR g μ kr cn (ν 5) := hHR
  have hm9 : μ 0 14 9 = nI sv := hm9
  have hsn : sv = 1 → VG (ν 3) ∧ RP (μ 2) (ν 3) := hsn
  have ht22 : μ 0 22 1 = nI tn := ht22
  have htx : ∀ j, j < tn → ν 8 j = nI (t j) ∧ μ 0 23 j = nI (t j) ∧ t j < 128 := htx
  have hl26 : μ 0 26 1 = nI lN := hl26
  have hlx : ∀ j, j < lN → ν 9 j = μ 0 27 j ∧ CH (ν 9 j) := hlx
  refine lv_aload_n hxe hcd dL_law_1986 rfl (lv_at hl 1 rfl) ?_
  refine lv_aload_n hxe hcd dL_law_1987 rfl (lv_at hl 0 rfl) ?_
  refine lv_iload hxe hcd dL_law_1988 (lv_at hl 5 rfl) ?_
  refine lv_iconst (v := (nI 1)) hxe hcd dL_law_1990 (by decide) ?_
  refine n_iadd S (a := i) (b := 1) dL_law_1991 ?_
  refine l_sc S hU hX hbl hbA (j := (i + 1)) (by omega) hL31 dL_law_1992 ?_
  refine lv_aload_n hxe hcd dL_law_1993 rfl (lv_at hl 3 rfl) ?_
  refine l_J hZ S hU (As := [.ref (A (0, 14)), .int (xs (i + 1)), .ref aj]) (rest := []) (t_L_dropsByLevels l hl0 hZ hZX hNC aj f A g μ H.size hVG hR (xs (i + 1))) lk_L_dropsByLevels hl.1 rfl rfl (Nat.le_of_ble_eq_true rfl) ⟨(Nat.le_of_ble_eq_true rfl), (Nat.le_of_ble_eq_true rfl)⟩ ⟨hc, hs⟩ dL_law_1994 (fun r u H locs hC hU => ?_)
  refine lv_istore (lv' := [(6, .int r), (0, .ref b), (1, .ref (A (0, 14))), (2, .ref (B 0)), (3, .ref aj), (4, .ref ad), (5, .int (nI i))]) hxe hcd dL_law_1997 hl (by decide) rfl (fun ls hl => ?_)
  refine lv_aload_n hxe hcd dL_law_1999 rfl (lv_at hl 3 rfl) ?_
  refine lv_aload_n hxe hcd dL_law_2000 rfl (lv_at hl 1 rfl) ?_
  refine lv_iload hxe hcd dL_law_2001 (lv_at hl 6 rfl) ?_
  refine lv_iconst (v := (nI 1)) hxe hcd dL_law_2003 (by decide) ?_
  refine n_iadd S (a := i) (b := 1) dL_law_2004 ?_
  refine l_sc S hU hX hbl hbA (j := (i + 1)) (by omega) hL31 dL_law_2005 ?_
  refine l_Mi hZ S hU (As := [.int (xs (i + 1))]) (rest := []) (t_X10_dropsByLevels l hZ B ν H.size (lnV (ν 1)) hVG.2.2.1 hVG.1.1 hVG.1.2 (psV (ν 1)) hVG.2.2.2.2.2.2.1 hVG.2.1.1 hVG.2.1.2 (cpN (ν 1)) (lvN (ν 1)) hVG.2.2.2.2.2.2.2.1 (xs (i + 1))) k_L_258 (l_rm hU) hl.1 rfl rfl (Nat.le_of_ble_eq_true rfl) ⟨(Nat.le_of_ble_eq_true rfl), (Nat.le_of_ble_eq_true rfl)⟩ ⟨hc, hs⟩ dL_law_2006 (fun rb ω H locs hM hU => ?_)
  obtain ⟨hCR2, hA2, hth, hres⟩ := j_dropsByLevels hCR hkr hc8 hch hHR  (v := ν 1) rfl hC hM
  refine lv_istore (lv' := [(7, .int rb), (6, .int r), (0, .ref b), (1, .ref (A (0, 14))), (2, .ref (B 0)), (3, .ref aj), (4, .ref ad), (5, .int (nI i))]) hxe hcd dL_law_2009 hl (by decide) rfl (fun ls hl => ?_)
  refine lv_aload_n hxe hcd dL_law_2011 rfl (lv_at hl 4 rfl) ?_
  refine l_T hZ S hU (As := []) (rest := []) (t_X10_thrown l hZ B ω H.size) k_L_158 (l_rm hU) hl.1 rfl rfl (Nat.le_of_ble_eq_true rfl) ⟨(Nat.le_of_ble_eq_true rfl), (Nat.le_of_ble_eq_true rfl)⟩ ⟨hc, hs⟩ dL_law_2012 (fun r3 H locs h3 hU => ?_)
  have h3 := h3.symm
  subst h3
  refine r_as hth ?_
  refine lv_iload hxe hcd dL_law_2015 (lv_at hl 1 rfl) ?_
  refine lv_icmp_eq (tgt := 2022) hxe hcd dL_law_2017 (by decide) (fun _ => ?_) (fun h => absurd rfl h)
  refine lv_iload hxe hcd dL_law_2022 (lv_at hl 1 rfl) ?_
  refine lv_if_ne (tgt := 2039) hxe hcd dL_law_2024 (by decide) (fun hk => ?_) (fun hk => ?_)
  · refine lv_goto (tgt := 2709) hxe hcd dL_law_2039 (by decide) ?_
    exact kk u.1 ω u.2 fd H locs ls hU hCR2 hA2 (lv_sub hl [2, 3, 4, 5, 6, 7] rfl)
  · have hres := hres hk
    refine lv_aload_n hxe hcd dL_law_2027 rfl (lv_at hl 5 rfl) ?_
    refine lv_iconst (v := (nI 0)) hxe hcd dL_law_2028 (by decide) ?_
    refine l_jld S hU dL_law_2029 ?_
    refine lv_iload hxe hcd dL_law_2030 (lv_at hl 0 rfl) ?_
    refine lv_i2l (v := rb.toInt64) hxe hcd dL_law_2032 rfl ?_
    refine W.lcmp hxe hcd dL_law_2033 ?_
    refine r_as (y := 0) (by rw [hres]; exact lgc_self _) ?_
    refine lv_if_eq (tgt := 2039) hxe hcd dL_law_2034 (by decide) (fun _ => ?_) (fun h => absurd rfl h)
    refine lv_goto (tgt := 2709) hxe hcd dL_law_2039 (by decide) ?_
    exact kk u.1 ω u.2 fd H locs ls hU hCR2 hA2 (lv_sub hl [2, 3, 4, 5, 6, 7] rfl)
theorem lk_L_tankAtRank : lkW RL 259 yL_tankAtRank cL_tankAtRank 4 [(0, 9, 12, 45)] 3 := ⟨g_1013, g_1014, g_66, g_1015, ⟨by decide +kernel, by decide +kernel, by decide +kernel⟩⟩
set_option maxHeartbeats 4000000 in
set_option maxRecDepth 100000 in
theorem c_31 (l : Launch) (hl0 : l.stackTraces = false) {Z : ZT} (hZ : zOK Z) (hZX : ZX Z) (hNC : XNC Z) {wd : WDT} (hw : ZW Z wd) {p : Program} {e : Env} {s : State} {m : MethodId} {below : List Frame} {meth : Method} {c : Code} {b : Nat} (S : CallFix p m c cL_law 9 s #[Value.ref b] GT RL) {L : Nat} {xs : Nat → Int32} (hX : va_X b L xs s s.heap) (hbl : b < s.heap.size) (hL31 : L < 2 ^ 31) {A0 : Nat → Prop} (hbA : ¬ A0 b) {aj ad : Nat} {B : Nat → Nat} {Q : State → Prop} {g : Nat → Bool} {A : Nat × Nat → Nat} {μ : CM} {ν : MM} {f : Nat → Int64} {fd : Nat → UInt64} {H : Heap} {locs : List Loc} {ls : Array Slot} {i cells slots : Nat} (hU : wW Z (LW Z aj ad B (g, A, μ) ν f fd) A0 s H locs) (hCR : CR (g, A, μ) ν) (hi : i + 4 < L) (hl : lv_has ls 9 [(0, .ref b), (1, .ref (A (0, 14))), (2, .ref (B 0)), (3, .ref aj), (4, .ref ad), (5, .int (nI i))]) (hc : cells + 15 ≤ 603072) (hs : slots + 1376 ≤ 7190633)
  (kk : ∀ (v' : GM) (ν' : MM) (f' : Nat → Int64) (fd' : Nat → UInt64) (H' : Heap) (locs' : List Loc) (ls' : Array Slot), wW Z (LW Z aj ad B v' ν' f' fd') A0 s H' locs' → CR v' ν' → v'.2.1 (0, 14) = A (0, 14) → lv_has ls' 9 [(0, .ref b), (1, .ref (A (0, 14))), (2, .ref (B 0)), (3, .ref aj), (4, .ref ad), (5, .int (nI i))] → W p l e room_1 s m #[Value.ref b] below meth c H' locs' (cells + 15) (slots + 1376) Q (F0 m 2709 ls' [])) : W p l e room_1 s m #[Value.ref b] below meth c H locs cells slots Q (F0 m 2042 ls []) := by
  have hxe := S.1
  have hcd := S.2.1
  obtain ⟨hVG, hR, ⟨kr, cn, hkr, hc8, hk15, hcn, hch, hHR⟩, ⟨sv, hs4, hsv1, hm9, hsn⟩, ⟨tn, t, ht17, ht22, htn60, htx⟩, ⟨lN, hl20, hl26, hlN80, hlx⟩, ⟨he10, he11, hep2, hep3⟩, ⟨hwd, hwa⟩⟩ := id hCR
  have hR : RP (μ 0) (ν 1) := hR
  have hk15 : μ 0 15 1 = nI kr := hk15
  have hcn : μ 0 15 2 = nI cn := hcn
  have hHR : HR g μ kr cn (ν 5) := hHR
  have hm9 : μ 0 14 9 = nI sv := hm9
  have hsn : sv = 1 → VG (ν 3) ∧ RP (μ 2) (ν 3) := hsn
  have ht22 : μ 0 22 1 = nI tn := ht22
  have htx : ∀ j, j < tn → ν 8 j = nI (t j) ∧ μ 0 23 j = nI (t j) ∧ t j < 128 := htx
  have hl26 : μ 0 26 1 = nI lN := hl26
  have hlx : ∀ j, j < lN → ν 9 j = μ 0 27 j ∧ CH (ν 9 j) := hlx
  refine lv_aload_n hxe hcd dL_law_2042 rfl (lv_at hl 1 rfl) ?_
  refine lv_aload_n hxe hcd dL_law_2043 rfl (lv_at hl 0 rfl) ?_
  refine lv_iload hxe hcd dL_law_2044 (lv_at hl 5 rfl) ?_
  refine lv_iconst (v := (nI 1)) hxe hcd dL_law_2046 (by decide) ?_
  refine n_iadd S (a := i) (b := 1) dL_law_2047 ?_
  refine l_sc S hU hX hbl hbA (j := (i + 1)) (by omega) hL31 dL_law_2048 ?_
  refine lv_aload_n hxe hcd dL_law_2049 rfl (lv_at hl 3 rfl) ?_
  refine l_J hZ S hU (As := [.ref (A (0, 14)), .int (xs (i + 1)), .ref aj]) (rest := []) (t_L_tankAtRank l hl0 hZ hZX hNC aj f A g μ H.size hVG hR (xs (i + 1))) lk_L_tankAtRank hl.1 rfl rfl (Nat.le_of_ble_eq_true rfl) ⟨(Nat.le_of_ble_eq_true rfl), (Nat.le_of_ble_eq_true rfl)⟩ ⟨hc, hs⟩ dL_law_2050 (fun r u H locs hC hU => ?_)
  refine lv_istore (lv' := [(6, .int r), (0, .ref b), (1, .ref (A (0, 14))), (2, .ref (B 0)), (3, .ref aj), (4, .ref ad), (5, .int (nI i))]) hxe hcd dL_law_2053 hl (by decide) rfl (fun ls hl => ?_)
  refine lv_aload_n hxe hcd dL_law_2055 rfl (lv_at hl 3 rfl) ?_
  refine lv_aload_n hxe hcd dL_law_2056 rfl (lv_at hl 1 rfl) ?_
  refine lv_iload hxe hcd dL_law_2057 (lv_at hl 6 rfl) ?_
  refine lv_iconst (v := (nI 1)) hxe hcd dL_law_2059 (by decide) ?_
  refine n_iadd S (a := i) (b := 1) dL_law_2060 ?_
  refine l_sc S hU hX hbl hbA (j := (i + 1)) (by omega) hL31 dL_law_2061 ?_
  refine l_Mi hZ S hU (As := [.int (xs (i + 1))]) (rest := []) (t_X10_tankAtRank l hZ B ν H.size hVG.2.1.1 hVG.2.1.2 (cpN (ν 1)) (lvN (ν 1)) hVG.2.2.2.2.2.2.2.1 (xs (i + 1))) k_L_261 (l_rm hU) hl.1 rfl rfl (Nat.le_of_ble_eq_true rfl) ⟨(Nat.le_of_ble_eq_true rfl), (Nat.le_of_ble_eq_true rfl)⟩ ⟨hc, hs⟩ dL_law_2062 (fun rb ω H locs hM hU => ?_)
  obtain ⟨hCR2, hA2, hth, hres⟩ := j_tankAtRank hCR hkr hc8 hch hHR  (v := ν 1) rfl hC hM
  refine lv_istore (lv' := [(7, .int rb), (6, .int r), (0, .ref b), (1, .ref (A (0, 14))), (2, .ref (B 0)), (3, .ref aj), (4, .ref ad), (5, .int (nI i))]) hxe hcd dL_law_2065 hl (by decide) rfl (fun ls hl => ?_)
  refine lv_aload_n hxe hcd dL_law_2067 rfl (lv_at hl 4 rfl) ?_
  refine l_T hZ S hU (As := []) (rest := []) (t_X10_thrown l hZ B ω H.size) k_L_158 (l_rm hU) hl.1 rfl rfl (Nat.le_of_ble_eq_true rfl) ⟨(Nat.le_of_ble_eq_true rfl), (Nat.le_of_ble_eq_true rfl)⟩ ⟨hc, hs⟩ dL_law_2068 (fun r3 H locs h3 hU => ?_)
  have h3 := h3.symm
  subst h3
  refine r_as hth ?_
  refine lv_iload hxe hcd dL_law_2071 (lv_at hl 1 rfl) ?_
  refine lv_icmp_eq (tgt := 2078) hxe hcd dL_law_2073 (by decide) (fun _ => ?_) (fun h => absurd rfl h)
  refine lv_iload hxe hcd dL_law_2078 (lv_at hl 1 rfl) ?_
  refine lv_if_ne (tgt := 2095) hxe hcd dL_law_2080 (by decide) (fun hk => ?_) (fun hk => ?_)
  · refine lv_goto (tgt := 2709) hxe hcd dL_law_2095 (by decide) ?_
    exact kk u.1 ω u.2 fd H locs ls hU hCR2 hA2 (lv_sub hl [2, 3, 4, 5, 6, 7] rfl)
  · have hres := hres hk
    refine lv_aload_n hxe hcd dL_law_2083 rfl (lv_at hl 5 rfl) ?_
    refine lv_iconst (v := (nI 0)) hxe hcd dL_law_2084 (by decide) ?_
    refine l_jld S hU dL_law_2085 ?_
    refine lv_iload hxe hcd dL_law_2086 (lv_at hl 0 rfl) ?_
    refine lv_i2l (v := rb.toInt64) hxe hcd dL_law_2088 rfl ?_
    refine W.lcmp hxe hcd dL_law_2089 ?_
    refine r_as (y := 0) (by rw [hres]; exact lgc_self _) ?_
    refine lv_if_eq (tgt := 2095) hxe hcd dL_law_2090 (by decide) (fun _ => ?_) (fun h => absurd rfl h)
    refine lv_goto (tgt := 2709) hxe hcd dL_law_2095 (by decide) ?_
    exact kk u.1 ω u.2 fd H locs ls hU hCR2 hA2 (lv_sub hl [2, 3, 4, 5, 6, 7] rfl)
set_option maxHeartbeats 4000000 in
set_option maxRecDepth 100000 in
theorem c_32 (l : Launch) (hl0 : l.stackTraces = false) {Z : ZT} (hZ : zOK Z) (hZX : ZX Z) (hNC : XNC Z) {wd : WDT} (hw : ZW Z wd) {p : Program} {e : Env} {s : State} {m : MethodId} {below : List Frame} {meth : Method} {c : Code} {b : Nat} (S : CallFix p m c cL_law 9 s #[Value.ref b] GT RL) {L : Nat} {xs : Nat → Int32} (hX : va_X b L xs s s.heap) (hbl : b < s.heap.size) (hL31 : L < 2 ^ 31) {A0 : Nat → Prop} (hbA : ¬ A0 b) {aj ad : Nat} {B : Nat → Nat} {Q : State → Prop} {g : Nat → Bool} {A : Nat × Nat → Nat} {μ : CM} {ν : MM} {f : Nat → Int64} {fd : Nat → UInt64} {H : Heap} {locs : List Loc} {ls : Array Slot} {i cells slots : Nat} (hU : wW Z (LW Z aj ad B (g, A, μ) ν f fd) A0 s H locs) (hCR : CR (g, A, μ) ν) (hi : i + 4 < L) (hl : lv_has ls 9 [(0, .ref b), (1, .ref (A (0, 14))), (2, .ref (B 0)), (3, .ref aj), (4, .ref ad), (5, .int (nI i))]) (hc : cells + 15 ≤ 603072) (hs : slots + 1376 ≤ 7190633)
  (kk : ∀ (v' : GM) (ν' : MM) (f' : Nat → Int64) (fd' : Nat → UInt64) (H' : Heap) (locs' : List Loc) (ls' : Array Slot), wW Z (LW Z aj ad B v' ν' f' fd') A0 s H' locs' → CR v' ν' → v'.2.1 (0, 14) = A (0, 14) → lv_has ls' 9 [(0, .ref b), (1, .ref (A (0, 14))), (2, .ref (B 0)), (3, .ref aj), (4, .ref ad), (5, .int (nI i))] → W p l e room_1 s m #[Value.ref b] below meth c H' locs' (cells + 15) (slots + 1376) Q (F0 m 2709 ls' [])) : W p l e room_1 s m #[Value.ref b] below meth c H locs cells slots Q (F0 m 2098 ls []) := by
  have hxe := S.1
  have hcd := S.2.1
  obtain ⟨hVG, hR, ⟨kr, cn, hkr, hc8, hk15, hcn, hch, hHR⟩, ⟨sv, hs4, hsv1, hm9, hsn⟩, ⟨tn, t, ht17, ht22, htn60, htx⟩, ⟨lN, hl20, hl26, hlN80, hlx⟩, ⟨he10, he11, hep2, hep3⟩, ⟨hwd, hwa⟩⟩ := id hCR
  have hR : RP (μ 0) (ν 1) := hR
  have hk15 : μ 0 15 1 = nI kr := hk15
  have hcn : μ 0 15 2 = nI cn := hcn
  have hHR : HR g μ kr cn (ν 5) := hHR
  have hm9 : μ 0 14 9 = nI sv := hm9
  have hsn : sv = 1 → VG (ν 3) ∧ RP (μ 2) (ν 3) := hsn
  have ht22 : μ 0 22 1 = nI tn := ht22
  have htx : ∀ j, j < tn → ν 8 j = nI (t j) ∧ μ 0 23 j = nI (t j) ∧ t j < 128 := htx
  have hl26 : μ 0 26 1 = nI lN := hl26
  have hlx : ∀ j, j < lN → ν 9 j = μ 0 27 j ∧ CH (ν 9 j) := hlx
  refine lv_aload_n hxe hcd dL_law_2098 rfl (lv_at hl 1 rfl) ?_
  refine l_C (mc := 15) (ms := 1376) hZ S hU (As := []) (rest := []) (fun _ _ h => h) (t_X9_storedTotal l hl0 hZ hZX A g μ H.size hVG hR) k_L_262 (l_rc hU) hl.1 rfl rfl (Nat.le_of_ble_eq_true rfl) ⟨(Nat.le_of_ble_eq_true rfl), (Nat.le_of_ble_eq_true rfl)⟩ ⟨hc, hs⟩ dL_law_2099 (fun r u H locs hC hU => ?_)
  refine lv_aload_n hxe hcd dL_law_2102 rfl (lv_at hl 2 rfl) ?_
  refine l_Mi hZ S hU (As := []) (rest := [.int r]) (t_X10_storedTotal l hZ B ν H.size ) k_L_265 (l_rm hU) hl.1 rfl rfl (Nat.le_of_ble_eq_true rfl) ⟨(Nat.le_of_ble_eq_true rfl), (Nat.le_of_ble_eq_true rfl)⟩ ⟨hc, hs⟩ dL_law_2103 (fun rb ω H locs hM hU => ?_)
  obtain ⟨hCR2, hA2, hrb⟩ := j_storedTotal hCR (v := ν 1) rfl hC hM
  subst hrb
  refine lv_icmp_eq (tgt := 2709) hxe hcd dL_law_2106 (by decide) (fun _ => ?_) (fun h => absurd rfl h)
  exact kk u ω f fd H locs ls hU hCR2 hA2 (lv_sub hl [0, 1, 2, 3, 4, 5] rfl)
set_option maxHeartbeats 4000000 in
set_option maxRecDepth 100000 in
theorem c_33 (l : Launch) (hl0 : l.stackTraces = false) {Z : ZT} (hZ : zOK Z) (hZX : ZX Z) (hNC : XNC Z) {wd : WDT} (hw : ZW Z wd) {p : Program} {e : Env} {s : State} {m : MethodId} {below : List Frame} {meth : Method} {c : Code} {b : Nat} (S : CallFix p m c cL_law 9 s #[Value.ref b] GT RL) {L : Nat} {xs : Nat → Int32} (hX : va_X b L xs s s.heap) (hbl : b < s.heap.size) (hL31 : L < 2 ^ 31) {A0 : Nat → Prop} (hbA : ¬ A0 b) {aj ad : Nat} {B : Nat → Nat} {Q : State → Prop} {g : Nat → Bool} {A : Nat × Nat → Nat} {μ : CM} {ν : MM} {f : Nat → Int64} {fd : Nat → UInt64} {H : Heap} {locs : List Loc} {ls : Array Slot} {i cells slots : Nat} (hU : wW Z (LW Z aj ad B (g, A, μ) ν f fd) A0 s H locs) (hCR : CR (g, A, μ) ν) (hi : i + 4 < L) (hl : lv_has ls 9 [(0, .ref b), (1, .ref (A (0, 14))), (2, .ref (B 0)), (3, .ref aj), (4, .ref ad), (5, .int (nI i))]) (hc : cells + 15 ≤ 603072) (hs : slots + 1376 ≤ 7190633)
  (kk : ∀ (v' : GM) (ν' : MM) (f' : Nat → Int64) (fd' : Nat → UInt64) (H' : Heap) (locs' : List Loc) (ls' : Array Slot), wW Z (LW Z aj ad B v' ν' f' fd') A0 s H' locs' → CR v' ν' → v'.2.1 (0, 14) = A (0, 14) → lv_has ls' 9 [(0, .ref b), (1, .ref (A (0, 14))), (2, .ref (B 0)), (3, .ref aj), (4, .ref ad), (5, .int (nI i))] → W p l e room_1 s m #[Value.ref b] below meth c H' locs' (cells + 15) (slots + 1376) Q (F0 m 2709 ls' [])) : W p l e room_1 s m #[Value.ref b] below meth c H locs cells slots Q (F0 m 2111 ls []) := by
  have hxe := S.1
  have hcd := S.2.1
  obtain ⟨hVG, hR, ⟨kr, cn, hkr, hc8, hk15, hcn, hch, hHR⟩, ⟨sv, hs4, hsv1, hm9, hsn⟩, ⟨tn, t, ht17, ht22, htn60, htx⟩, ⟨lN, hl20, hl26, hlN80, hlx⟩, ⟨he10, he11, hep2, hep3⟩, ⟨hwd, hwa⟩⟩ := id hCR
  have hR : RP (μ 0) (ν 1) := hR
  have hk15 : μ 0 15 1 = nI kr := hk15
  have hcn : μ 0 15 2 = nI cn := hcn
  have hHR : HR g μ kr cn (ν 5) := hHR
  have hm9 : μ 0 14 9 = nI sv := hm9
  have hsn : sv = 1 → VG (ν 3) ∧ RP (μ 2) (ν 3) := hsn
  have ht22 : μ 0 22 1 = nI tn := ht22
  have htx : ∀ j, j < tn → ν 8 j = nI (t j) ∧ μ 0 23 j = nI (t j) ∧ t j < 128 := htx
  have hl26 : μ 0 26 1 = nI lN := hl26
  have hlx : ∀ j, j < lN → ν 9 j = μ 0 27 j ∧ CH (ν 9 j) := hlx
  refine lv_aload_n hxe hcd dL_law_2111 rfl (lv_at hl 1 rfl) ?_
  refine l_C (mc := 15) (ms := 1376) hZ S hU (As := []) (rest := []) (fun _ _ h => h) (t_X9_droppedTotal l hl0 hZ hZX A g μ H.size hVG hR) k_L_266 (l_rc hU) hl.1 rfl rfl (Nat.le_of_ble_eq_true rfl) ⟨(Nat.le_of_ble_eq_true rfl), (Nat.le_of_ble_eq_true rfl)⟩ ⟨hc, hs⟩ dL_law_2112 (fun r u H locs hC hU => ?_)
  refine lv_aload_n hxe hcd dL_law_2115 rfl (lv_at hl 2 rfl) ?_
  refine l_Mi hZ S hU (As := []) (rest := [.int r]) (t_X10_droppedTotal l hZ B ν H.size ) k_L_269 (l_rm hU) hl.1 rfl rfl (Nat.le_of_ble_eq_true rfl) ⟨(Nat.le_of_ble_eq_true rfl), (Nat.le_of_ble_eq_true rfl)⟩ ⟨hc, hs⟩ dL_law_2116 (fun rb ω H locs hM hU => ?_)
  obtain ⟨hCR2, hA2, hrb⟩ := j_droppedTotal hCR (v := ν 1) rfl hC hM
  subst hrb
  refine lv_icmp_eq (tgt := 2709) hxe hcd dL_law_2119 (by decide) (fun _ => ?_) (fun h => absurd rfl h)
  exact kk u ω f fd H locs ls hU hCR2 hA2 (lv_sub hl [0, 1, 2, 3, 4, 5] rfl)
set_option maxHeartbeats 4000000 in
set_option maxRecDepth 100000 in
theorem c_34 (l : Launch) (hl0 : l.stackTraces = false) {Z : ZT} (hZ : zOK Z) (hZX : ZX Z) (hNC : XNC Z) {wd : WDT} (hw : ZW Z wd) {p : Program} {e : Env} {s : State} {m : MethodId} {below : List Frame} {meth : Method} {c : Code} {b : Nat} (S : CallFix p m c cL_law 9 s #[Value.ref b] GT RL) {L : Nat} {xs : Nat → Int32} (hX : va_X b L xs s s.heap) (hbl : b < s.heap.size) (hL31 : L < 2 ^ 31) {A0 : Nat → Prop} (hbA : ¬ A0 b) {aj ad : Nat} {B : Nat → Nat} {Q : State → Prop} {g : Nat → Bool} {A : Nat × Nat → Nat} {μ : CM} {ν : MM} {f : Nat → Int64} {fd : Nat → UInt64} {H : Heap} {locs : List Loc} {ls : Array Slot} {i cells slots : Nat} (hU : wW Z (LW Z aj ad B (g, A, μ) ν f fd) A0 s H locs) (hCR : CR (g, A, μ) ν) (hi : i + 4 < L) (hl : lv_has ls 9 [(0, .ref b), (1, .ref (A (0, 14))), (2, .ref (B 0)), (3, .ref aj), (4, .ref ad), (5, .int (nI i))]) (hc : cells + 15 ≤ 603072) (hs : slots + 1376 ≤ 7190633)
  (kk : ∀ (v' : GM) (ν' : MM) (f' : Nat → Int64) (fd' : Nat → UInt64) (H' : Heap) (locs' : List Loc) (ls' : Array Slot), wW Z (LW Z aj ad B v' ν' f' fd') A0 s H' locs' → CR v' ν' → v'.2.1 (0, 14) = A (0, 14) → lv_has ls' 9 [(0, .ref b), (1, .ref (A (0, 14))), (2, .ref (B 0)), (3, .ref aj), (4, .ref ad), (5, .int (nI i))] → W p l e room_1 s m #[Value.ref b] below meth c H' locs' (cells + 15) (slots + 1376) Q (F0 m 2709 ls' [])) : W p l e room_1 s m #[Value.ref b] below meth c H locs cells slots Q (F0 m 2124 ls []) := by
  have hxe := S.1
  have hcd := S.2.1
  obtain ⟨hVG, hR, ⟨kr, cn, hkr, hc8, hk15, hcn, hch, hHR⟩, ⟨sv, hs4, hsv1, hm9, hsn⟩, ⟨tn, t, ht17, ht22, htn60, htx⟩, ⟨lN, hl20, hl26, hlN80, hlx⟩, ⟨he10, he11, hep2, hep3⟩, ⟨hwd, hwa⟩⟩ := id hCR
  have hR : RP (μ 0) (ν 1) := hR
  have hk15 : μ 0 15 1 = nI kr := hk15
  have hcn : μ 0 15 2 = nI cn := hcn
  have hHR : HR g μ kr cn (ν 5) := hHR
  have hm9 : μ 0 14 9 = nI sv := hm9
  have hsn : sv = 1 → VG (ν 3) ∧ RP (μ 2) (ν 3) := hsn
  have ht22 : μ 0 22 1 = nI tn := ht22
  have htx : ∀ j, j < tn → ν 8 j = nI (t j) ∧ μ 0 23 j = nI (t j) ∧ t j < 128 := htx
  have hl26 : μ 0 26 1 = nI lN := hl26
  have hlx : ∀ j, j < lN → ν 9 j = μ 0 27 j ∧ CH (ν 9 j) := hlx
  refine lv_aload_n hxe hcd dL_law_2124 rfl (lv_at hl 1 rfl) ?_
  refine l_C (mc := 15) (ms := 1376) hZ S hU (As := []) (rest := []) (fun _ _ h => h) (t_X9_drainedTotal l hl0 hZ hZX A g μ H.size hVG hR) k_L_270 (l_rc hU) hl.1 rfl rfl (Nat.le_of_ble_eq_true rfl) ⟨(Nat.le_of_ble_eq_true rfl), (Nat.le_of_ble_eq_true rfl)⟩ ⟨hc, hs⟩ dL_law_2125 (fun r u H locs hC hU => ?_)
  refine lv_aload_n hxe hcd dL_law_2128 rfl (lv_at hl 2 rfl) ?_
  refine l_Mi hZ S hU (As := []) (rest := [.int r]) (t_X10_drainedTotal l hZ B ν H.size ) k_L_273 (l_rm hU) hl.1 rfl rfl (Nat.le_of_ble_eq_true rfl) ⟨(Nat.le_of_ble_eq_true rfl), (Nat.le_of_ble_eq_true rfl)⟩ ⟨hc, hs⟩ dL_law_2129 (fun rb ω H locs hM hU => ?_)
  obtain ⟨hCR2, hA2, hrb⟩ := j_drainedTotal hCR (v := ν 1) rfl hC hM
  subst hrb
  refine lv_icmp_eq (tgt := 2709) hxe hcd dL_law_2132 (by decide) (fun _ => ?_) (fun h => absurd rfl h)
  exact kk u ω f fd H locs ls hU hCR2 hA2 (lv_sub hl [0, 1, 2, 3, 4, 5] rfl)
theorem lk_L_append : lkW RL 274 yL_append cL_append 4 [(0, 9, 12, 13), (0, 9, 15, 15)] 3 := ⟨g_1033, g_1034, g_66, g_1035, ⟨by decide +kernel, by decide +kernel, by decide +kernel⟩⟩
set_option maxHeartbeats 4000000 in
set_option maxRecDepth 100000 in
theorem c_35 (l : Launch) (hl0 : l.stackTraces = false) {Z : ZT} (hZ : zOK Z) (hZX : ZX Z) (hNC : XNC Z) {wd : WDT} (hw : ZW Z wd) {p : Program} {e : Env} {s : State} {m : MethodId} {below : List Frame} {meth : Method} {c : Code} {b : Nat} (S : CallFix p m c cL_law 9 s #[Value.ref b] GT RL) {L : Nat} {xs : Nat → Int32} (hX : va_X b L xs s s.heap) (hbl : b < s.heap.size) (hL31 : L < 2 ^ 31) {A0 : Nat → Prop} (hbA : ¬ A0 b) {aj ad : Nat} {B : Nat → Nat} {Q : State → Prop} {g : Nat → Bool} {A : Nat × Nat → Nat} {μ : CM} {ν : MM} {f : Nat → Int64} {fd : Nat → UInt64} {H : Heap} {locs : List Loc} {ls : Array Slot} {i cells slots : Nat} (hU : wW Z (LW Z aj ad B (g, A, μ) ν f fd) A0 s H locs) (hCR : CR (g, A, μ) ν) (hi : i + 4 < L) (hl : lv_has ls 9 [(0, .ref b), (1, .ref (A (0, 14))), (2, .ref (B 0)), (3, .ref aj), (4, .ref ad), (5, .int (nI i))]) (hc : cells + 15 ≤ 603072) (hs : slots + 1376 ≤ 7190633)
  (kk : ∀ (v' : GM) (ν' : MM) (f' : Nat → Int64) (fd' : Nat → UInt64) (H' : Heap) (locs' : List Loc) (ls' : Array Slot), wW Z (LW Z aj ad B v' ν' f' fd') A0 s H' locs' → CR v' ν' → v'.2.1 (0, 14) = A (0, 14) → lv_has ls' 9 [(0, .ref b), (1, .ref (A (0, 14))), (2, .ref (B 0)), (3, .ref aj), (4, .ref ad), (5, .int (nI i))] → W p l e room_1 s m #[Value.ref b] below meth c H' locs' (cells + 15) (slots + 1376) Q (F0 m 2709 ls' [])) : W p l e room_1 s m #[Value.ref b] below meth c H locs cells slots Q (F0 m 2137 ls []) := by
  have hxe := S.1
  have hcd := S.2.1
  obtain ⟨hVG, hR, ⟨kr, cn, hkr, hc8, hk15, hcn, hch, hHR⟩, ⟨sv, hs4, hsv1, hm9, hsn⟩, ⟨tn, t, ht17, ht22, htn60, htx⟩, ⟨lN, hl20, hl26, hlN80, hlx⟩, ⟨he10, he11, hep2, hep3⟩, ⟨hwd, hwa⟩⟩ := id hCR
  have hR : RP (μ 0) (ν 1) := hR
  have hk15 : μ 0 15 1 = nI kr := hk15
  have hcn : μ 0 15 2 = nI cn := hcn
  have hHR : HR g μ kr cn (ν 5) := hHR
  have hm9 : μ 0 14 9 = nI sv := hm9
  have hsn : sv = 1 → VG (ν 3) ∧ RP (μ 2) (ν 3) := hsn
  have ht22 : μ 0 22 1 = nI tn := ht22
  have htx : ∀ j, j < tn → ν 8 j = nI (t j) ∧ μ 0 23 j = nI (t j) ∧ t j < 128 := htx
  have hl26 : μ 0 26 1 = nI lN := hl26
  have hlx : ∀ j, j < lN → ν 9 j = μ 0 27 j ∧ CH (ν 9 j) := hlx
  refine lv_aload_n hxe hcd dL_law_2137 rfl (lv_at hl 1 rfl) ?_
  refine lv_aload_n hxe hcd dL_law_2138 rfl (lv_at hl 0 rfl) ?_
  refine lv_iload hxe hcd dL_law_2139 (lv_at hl 5 rfl) ?_
  refine lv_iconst (v := (nI 1)) hxe hcd dL_law_2141 (by decide) ?_
  refine n_iadd S (a := i) (b := 1) dL_law_2142 ?_
  refine l_sc S hU hX hbl hbA (j := (i + 1)) (by omega) hL31 dL_law_2143 ?_
  refine lv_i2c (v := (((xs (i + 1))).toUInt32 % 65536).toInt32) hxe hcd dL_law_2144 rfl ?_
  refine lv_aload_n hxe hcd dL_law_2145 rfl (lv_at hl 3 rfl) ?_
  refine l_J hZ S hU (As := [.ref (A (0, 14)), .int ((((xs (i + 1))).toUInt32 % 65536).toInt32), .ref aj]) (rest := []) (t_L_append l hl0 hZ hZX hNC aj f A g μ H.size ht22 htn60 ((((xs (i + 1))).toUInt32 % 65536).toInt32)) lk_L_append hl.1 rfl rfl (Nat.le_of_ble_eq_true rfl) ⟨(Nat.le_of_ble_eq_true rfl), (Nat.le_of_ble_eq_true rfl)⟩ ⟨hc, hs⟩ dL_law_2146 (fun r u H locs hC hU => ?_)
  refine lv_istore (lv' := [(6, .int r), (0, .ref b), (1, .ref (A (0, 14))), (2, .ref (B 0)), (3, .ref aj), (4, .ref ad), (5, .int (nI i))]) hxe hcd dL_law_2149 hl (by decide) rfl (fun ls hl => ?_)
  refine lv_aload_n hxe hcd dL_law_2151 rfl (lv_at hl 3 rfl) ?_
  refine lv_aload_n hxe hcd dL_law_2152 rfl (lv_at hl 1 rfl) ?_
  refine lv_iload hxe hcd dL_law_2153 (lv_at hl 6 rfl) ?_
  refine lv_iconst (v := (nI 1)) hxe hcd dL_law_2155 (by decide) ?_
  refine n_iadd S (a := i) (b := 1) dL_law_2156 ?_
  refine l_sc S hU hX hbl hbA (j := (i + 1)) (by omega) hL31 dL_law_2157 ?_
  refine lv_i2c (v := (((xs (i + 1))).toUInt32 % 65536).toInt32) hxe hcd dL_law_2158 rfl ?_
  refine l_Mi hZ S hU (As := [.int ((((xs (i + 1))).toUInt32 % 65536).toInt32)]) (rest := []) (t_X10_append l hZ B ν H.size ht17 htn60 ((((xs (i + 1))).toUInt32 % 65536).toInt32)) k_L_277 (l_rm hU) hl.1 rfl rfl (Nat.le_of_ble_eq_true rfl) ⟨(Nat.le_of_ble_eq_true rfl), (Nat.le_of_ble_eq_true rfl)⟩ ⟨hc, hs⟩ dL_law_2159 (fun rb ω H locs hM hU => ?_)
  obtain ⟨hCR2, hA2, hth, hres⟩ := j_append hCR hkr hc8 hch hHR ht17 htn60 (v := ν 1) rfl hC hM
  refine lv_istore (lv' := [(7, .int rb), (6, .int r), (0, .ref b), (1, .ref (A (0, 14))), (2, .ref (B 0)), (3, .ref aj), (4, .ref ad), (5, .int (nI i))]) hxe hcd dL_law_2162 hl (by decide) rfl (fun ls hl => ?_)
  refine lv_aload_n hxe hcd dL_law_2164 rfl (lv_at hl 4 rfl) ?_
  refine l_T hZ S hU (As := []) (rest := []) (t_X10_thrown l hZ B ω H.size) k_L_158 (l_rm hU) hl.1 rfl rfl (Nat.le_of_ble_eq_true rfl) ⟨(Nat.le_of_ble_eq_true rfl), (Nat.le_of_ble_eq_true rfl)⟩ ⟨hc, hs⟩ dL_law_2165 (fun r3 H locs h3 hU => ?_)
  have h3 := h3.symm
  subst h3
  refine r_as hth ?_
  refine lv_iload hxe hcd dL_law_2168 (lv_at hl 1 rfl) ?_
  refine lv_icmp_eq (tgt := 2175) hxe hcd dL_law_2170 (by decide) (fun _ => ?_) (fun h => absurd rfl h)
  refine lv_iload hxe hcd dL_law_2175 (lv_at hl 1 rfl) ?_
  refine lv_if_ne (tgt := 2192) hxe hcd dL_law_2177 (by decide) (fun hk => ?_) (fun hk => ?_)
  · refine lv_goto (tgt := 2709) hxe hcd dL_law_2192 (by decide) ?_
    exact kk u.1 ω u.2 fd H locs ls hU hCR2 hA2 (lv_sub hl [2, 3, 4, 5, 6, 7] rfl)
  · have hres := hres hk
    refine lv_aload_n hxe hcd dL_law_2180 rfl (lv_at hl 5 rfl) ?_
    refine lv_iconst (v := (nI 0)) hxe hcd dL_law_2181 (by decide) ?_
    refine l_jld S hU dL_law_2182 ?_
    refine lv_iload hxe hcd dL_law_2183 (lv_at hl 0 rfl) ?_
    refine lv_i2l (v := rb.toInt64) hxe hcd dL_law_2185 rfl ?_
    refine W.lcmp hxe hcd dL_law_2186 ?_
    refine r_as (y := 0) (by rw [hres]; exact lgc_self _) ?_
    refine lv_if_eq (tgt := 2192) hxe hcd dL_law_2187 (by decide) (fun _ => ?_) (fun h => absurd rfl h)
    refine lv_goto (tgt := 2709) hxe hcd dL_law_2192 (by decide) ?_
    exact kk u.1 ω u.2 fd H locs ls hU hCR2 hA2 (lv_sub hl [2, 3, 4, 5, 6, 7] rfl)
theorem lk_L_run : lkW RL 278 yL_run cL_run 3 [(0, 8, 11, 13), (0, 8, 14, 15)] 2 := ⟨g_1050, g_1051, g_66, g_1052, ⟨by decide +kernel, by decide +kernel, by decide +kernel⟩⟩
set_option maxHeartbeats 4000000 in
set_option maxRecDepth 100000 in
theorem c_36 (l : Launch) (hl0 : l.stackTraces = false) {Z : ZT} (hZ : zOK Z) (hZX : ZX Z) (hNC : XNC Z) {wd : WDT} (hw : ZW Z wd) {p : Program} {e : Env} {s : State} {m : MethodId} {below : List Frame} {meth : Method} {c : Code} {b : Nat} (S : CallFix p m c cL_law 9 s #[Value.ref b] GT RL) {L : Nat} {xs : Nat → Int32} (hX : va_X b L xs s s.heap) (hbl : b < s.heap.size) (hL31 : L < 2 ^ 31) {A0 : Nat → Prop} (hbA : ¬ A0 b) {aj ad : Nat} {B : Nat → Nat} {Q : State → Prop} {g : Nat → Bool} {A : Nat × Nat → Nat} {μ : CM} {ν : MM} {f : Nat → Int64} {fd : Nat → UInt64} {H : Heap} {locs : List Loc} {ls : Array Slot} {i cells slots : Nat} (hU : wW Z (LW Z aj ad B (g, A, μ) ν f fd) A0 s H locs) (hCR : CR (g, A, μ) ν) (hi : i + 4 < L) (hl : lv_has ls 9 [(0, .ref b), (1, .ref (A (0, 14))), (2, .ref (B 0)), (3, .ref aj), (4, .ref ad), (5, .int (nI i))]) (hc : cells + 15 ≤ 603072) (hs : slots + 1376 ≤ 7190633)
  (kk : ∀ (v' : GM) (ν' : MM) (f' : Nat → Int64) (fd' : Nat → UInt64) (H' : Heap) (locs' : List Loc) (ls' : Array Slot), wW Z (LW Z aj ad B v' ν' f' fd') A0 s H' locs' → CR v' ν' → v'.2.1 (0, 14) = A (0, 14) → lv_has ls' 9 [(0, .ref b), (1, .ref (A (0, 14))), (2, .ref (B 0)), (3, .ref aj), (4, .ref ad), (5, .int (nI i))] → W p l e room_1 s m #[Value.ref b] below meth c H' locs' (cells + 15) (slots + 1376) Q (F0 m 2709 ls' [])) : W p l e room_1 s m #[Value.ref b] below meth c H locs cells slots Q (F0 m 2195 ls []) := by
  have hxe := S.1
  have hcd := S.2.1
  obtain ⟨hVG, hR, ⟨kr, cn, hkr, hc8, hk15, hcn, hch, hHR⟩, ⟨sv, hs4, hsv1, hm9, hsn⟩, ⟨tn, t, ht17, ht22, htn60, htx⟩, ⟨lN, hl20, hl26, hlN80, hlx⟩, ⟨he10, he11, hep2, hep3⟩, ⟨hwd, hwa⟩⟩ := id hCR
  have hR : RP (μ 0) (ν 1) := hR
  have hk15 : μ 0 15 1 = nI kr := hk15
  have hcn : μ 0 15 2 = nI cn := hcn
  have hHR : HR g μ kr cn (ν 5) := hHR
  have hm9 : μ 0 14 9 = nI sv := hm9
  have hsn : sv = 1 → VG (ν 3) ∧ RP (μ 2) (ν 3) := hsn
  have ht22 : μ 0 22 1 = nI tn := ht22
  have htx : ∀ j, j < tn → ν 8 j = nI (t j) ∧ μ 0 23 j = nI (t j) ∧ t j < 128 := htx
  have hl26 : μ 0 26 1 = nI lN := hl26
  have hlx : ∀ j, j < lN → ν 9 j = μ 0 27 j ∧ CH (ν 9 j) := hlx
  refine lv_aload_n hxe hcd dL_law_2195 rfl (lv_at hl 1 rfl) ?_
  refine lv_aload_n hxe hcd dL_law_2196 rfl (lv_at hl 3 rfl) ?_
  refine l_J hZ S hU (As := [.ref (A (0, 14)), .ref aj]) (rest := []) (t_L_run l hl0 hZ hZX hNC aj f A g μ H.size hVG hR hkr hk15 hcn hc8 ht22 htn60 t (fun j hj => (htx j hj).2) hw) lk_L_run hl.1 rfl rfl (Nat.le_of_ble_eq_true rfl) ⟨(Nat.le_of_ble_eq_true rfl), (Nat.le_of_ble_eq_true rfl)⟩ ⟨hc, hs⟩ dL_law_2197 (fun r u H locs hC hU => ?_)
  refine lv_istore (lv' := [(6, .int r), (0, .ref b), (1, .ref (A (0, 14))), (2, .ref (B 0)), (3, .ref aj), (4, .ref ad), (5, .int (nI i))]) hxe hcd dL_law_2200 hl (by decide) rfl (fun ls hl => ?_)
  refine lv_aload_n hxe hcd dL_law_2202 rfl (lv_at hl 3 rfl) ?_
  refine l_Mi hZ S hU (As := []) (rest := []) (t_X10_run l hZ B ν H.size ht17 htn60 t (fun j hj => ⟨(htx j hj).1, (htx j hj).2.2⟩) hwd hwa hVG hch hc8) k_L_281 (l_rm hU) hl.1 rfl rfl (Nat.le_of_ble_eq_true rfl) ⟨(Nat.le_of_ble_eq_true rfl), (Nat.le_of_ble_eq_true rfl)⟩ ⟨hc, hs⟩ dL_law_2203 (fun rb ω H locs hM hU => ?_)
  obtain ⟨hCR2, hA2, hth, hres⟩ := j_run hCR hkr hc8 hch hHR htn60 (v := ν 1) rfl hC hM
  refine lv_istore (lv' := [(7, .int rb), (6, .int r), (0, .ref b), (1, .ref (A (0, 14))), (2, .ref (B 0)), (3, .ref aj), (4, .ref ad), (5, .int (nI i))]) hxe hcd dL_law_2206 hl (by decide) rfl (fun ls hl => ?_)
  refine lv_aload_n hxe hcd dL_law_2208 rfl (lv_at hl 4 rfl) ?_
  refine l_T hZ S hU (As := []) (rest := []) (t_X10_thrown l hZ B ω H.size) k_L_158 (l_rm hU) hl.1 rfl rfl (Nat.le_of_ble_eq_true rfl) ⟨(Nat.le_of_ble_eq_true rfl), (Nat.le_of_ble_eq_true rfl)⟩ ⟨hc, hs⟩ dL_law_2209 (fun r3 H locs h3 hU => ?_)
  have h3 := h3.symm
  subst h3
  refine r_as hth ?_
  refine lv_iload hxe hcd dL_law_2212 (lv_at hl 1 rfl) ?_
  refine lv_icmp_eq (tgt := 2219) hxe hcd dL_law_2214 (by decide) (fun _ => ?_) (fun h => absurd rfl h)
  refine lv_iload hxe hcd dL_law_2219 (lv_at hl 1 rfl) ?_
  refine lv_if_ne (tgt := 2236) hxe hcd dL_law_2221 (by decide) (fun hk => ?_) (fun hk => ?_)
  · refine lv_goto (tgt := 2709) hxe hcd dL_law_2236 (by decide) ?_
    exact kk u.1 ω u.2 fd H locs ls hU hCR2 hA2 (lv_sub hl [2, 3, 4, 5, 6, 7] rfl)
  · have hres := hres hk
    refine lv_aload_n hxe hcd dL_law_2224 rfl (lv_at hl 5 rfl) ?_
    refine lv_iconst (v := (nI 0)) hxe hcd dL_law_2225 (by decide) ?_
    refine l_jld S hU dL_law_2226 ?_
    refine lv_iload hxe hcd dL_law_2227 (lv_at hl 0 rfl) ?_
    refine lv_i2l (v := rb.toInt64) hxe hcd dL_law_2229 rfl ?_
    refine W.lcmp hxe hcd dL_law_2230 ?_
    refine r_as (y := 0) (by rw [hres]; exact lgc_self _) ?_
    refine lv_if_eq (tgt := 2236) hxe hcd dL_law_2231 (by decide) (fun _ => ?_) (fun h => absurd rfl h)
    refine lv_goto (tgt := 2709) hxe hcd dL_law_2236 (by decide) ?_
    exact kk u.1 ω u.2 fd H locs ls hU hCR2 hA2 (lv_sub hl [2, 3, 4, 5, 6, 7] rfl)
theorem lk_L_errorPosition : lkW RL 282 yL_errorPosition cL_errorPosition 3 [(0, 8, 11, 45)] 2 := ⟨g_1163, g_1164, g_66, g_1165, ⟨by decide +kernel, by decide +kernel, by decide +kernel⟩⟩
set_option maxHeartbeats 4000000 in
set_option maxRecDepth 100000 in
theorem c_37 (l : Launch) (hl0 : l.stackTraces = false) {Z : ZT} (hZ : zOK Z) (hZX : ZX Z) (hNC : XNC Z) {wd : WDT} (hw : ZW Z wd) {p : Program} {e : Env} {s : State} {m : MethodId} {below : List Frame} {meth : Method} {c : Code} {b : Nat} (S : CallFix p m c cL_law 9 s #[Value.ref b] GT RL) {L : Nat} {xs : Nat → Int32} (hX : va_X b L xs s s.heap) (hbl : b < s.heap.size) (hL31 : L < 2 ^ 31) {A0 : Nat → Prop} (hbA : ¬ A0 b) {aj ad : Nat} {B : Nat → Nat} {Q : State → Prop} {g : Nat → Bool} {A : Nat × Nat → Nat} {μ : CM} {ν : MM} {f : Nat → Int64} {fd : Nat → UInt64} {H : Heap} {locs : List Loc} {ls : Array Slot} {i cells slots : Nat} (hU : wW Z (LW Z aj ad B (g, A, μ) ν f fd) A0 s H locs) (hCR : CR (g, A, μ) ν) (hi : i + 4 < L) (hl : lv_has ls 9 [(0, .ref b), (1, .ref (A (0, 14))), (2, .ref (B 0)), (3, .ref aj), (4, .ref ad), (5, .int (nI i))]) (hc : cells + 15 ≤ 603072) (hs : slots + 1376 ≤ 7190633)
  (kk : ∀ (v' : GM) (ν' : MM) (f' : Nat → Int64) (fd' : Nat → UInt64) (H' : Heap) (locs' : List Loc) (ls' : Array Slot), wW Z (LW Z aj ad B v' ν' f' fd') A0 s H' locs' → CR v' ν' → v'.2.1 (0, 14) = A (0, 14) → lv_has ls' 9 [(0, .ref b), (1, .ref (A (0, 14))), (2, .ref (B 0)), (3, .ref aj), (4, .ref ad), (5, .int (nI i))] → W p l e room_1 s m #[Value.ref b] below meth c H' locs' (cells + 15) (slots + 1376) Q (F0 m 2709 ls' [])) : W p l e room_1 s m #[Value.ref b] below meth c H locs cells slots Q (F0 m 2239 ls []) := by
  have hxe := S.1
  have hcd := S.2.1
  obtain ⟨hVG, hR, ⟨kr, cn, hkr, hc8, hk15, hcn, hch, hHR⟩, ⟨sv, hs4, hsv1, hm9, hsn⟩, ⟨tn, t, ht17, ht22, htn60, htx⟩, ⟨lN, hl20, hl26, hlN80, hlx⟩, ⟨he10, he11, hep2, hep3⟩, ⟨hwd, hwa⟩⟩ := id hCR
  have hR : RP (μ 0) (ν 1) := hR
  have hk15 : μ 0 15 1 = nI kr := hk15
  have hcn : μ 0 15 2 = nI cn := hcn
  have hHR : HR g μ kr cn (ν 5) := hHR
  have hm9 : μ 0 14 9 = nI sv := hm9
  have hsn : sv = 1 → VG (ν 3) ∧ RP (μ 2) (ν 3) := hsn
  have ht22 : μ 0 22 1 = nI tn := ht22
  have htx : ∀ j, j < tn → ν 8 j = nI (t j) ∧ μ 0 23 j = nI (t j) ∧ t j < 128 := htx
  have hl26 : μ 0 26 1 = nI lN := hl26
  have hlx : ∀ j, j < lN → ν 9 j = μ 0 27 j ∧ CH (ν 9 j) := hlx
  refine lv_aload_n hxe hcd dL_law_2239 rfl (lv_at hl 1 rfl) ?_
  refine lv_aload_n hxe hcd dL_law_2240 rfl (lv_at hl 3 rfl) ?_
  refine l_J hZ S hU (As := [.ref (A (0, 14)), .ref aj]) (rest := []) (t_L_errorPosition l hl0 hZ hZX hNC aj f A g μ H.size ) lk_L_errorPosition hl.1 rfl rfl (Nat.le_of_ble_eq_true rfl) ⟨(Nat.le_of_ble_eq_true rfl), (Nat.le_of_ble_eq_true rfl)⟩ ⟨hc, hs⟩ dL_law_2241 (fun r u H locs hC hU => ?_)
  refine lv_istore (lv' := [(6, .int r), (0, .ref b), (1, .ref (A (0, 14))), (2, .ref (B 0)), (3, .ref aj), (4, .ref ad), (5, .int (nI i))]) hxe hcd dL_law_2244 hl (by decide) rfl (fun ls hl => ?_)
  refine lv_aload_n hxe hcd dL_law_2246 rfl (lv_at hl 3 rfl) ?_
  refine l_Mi hZ S hU (As := []) (rest := []) (t_X10_errorPosition l hZ B ν H.size ) k_L_284 (l_rm hU) hl.1 rfl rfl (Nat.le_of_ble_eq_true rfl) ⟨(Nat.le_of_ble_eq_true rfl), (Nat.le_of_ble_eq_true rfl)⟩ ⟨hc, hs⟩ dL_law_2247 (fun rb ω H locs hM hU => ?_)
  obtain ⟨hCR2, hA2, hth, hres⟩ := j_errorPosition hCR hkr hc8 hch hHR  (v := ν 1) rfl hC hM
  refine lv_istore (lv' := [(7, .int rb), (6, .int r), (0, .ref b), (1, .ref (A (0, 14))), (2, .ref (B 0)), (3, .ref aj), (4, .ref ad), (5, .int (nI i))]) hxe hcd dL_law_2250 hl (by decide) rfl (fun ls hl => ?_)
  refine lv_aload_n hxe hcd dL_law_2252 rfl (lv_at hl 4 rfl) ?_
  refine l_T hZ S hU (As := []) (rest := []) (t_X10_thrown l hZ B ω H.size) k_L_158 (l_rm hU) hl.1 rfl rfl (Nat.le_of_ble_eq_true rfl) ⟨(Nat.le_of_ble_eq_true rfl), (Nat.le_of_ble_eq_true rfl)⟩ ⟨hc, hs⟩ dL_law_2253 (fun r3 H locs h3 hU => ?_)
  have h3 := h3.symm
  subst h3
  refine r_as hth ?_
  refine lv_iload hxe hcd dL_law_2256 (lv_at hl 1 rfl) ?_
  refine lv_icmp_eq (tgt := 2263) hxe hcd dL_law_2258 (by decide) (fun _ => ?_) (fun h => absurd rfl h)
  refine lv_iload hxe hcd dL_law_2263 (lv_at hl 1 rfl) ?_
  refine lv_if_ne (tgt := 2280) hxe hcd dL_law_2265 (by decide) (fun hk => ?_) (fun hk => ?_)
  · refine lv_goto (tgt := 2709) hxe hcd dL_law_2280 (by decide) ?_
    exact kk u.1 ω u.2 fd H locs ls hU hCR2 hA2 (lv_sub hl [2, 3, 4, 5, 6, 7] rfl)
  · have hres := hres hk
    refine lv_aload_n hxe hcd dL_law_2268 rfl (lv_at hl 5 rfl) ?_
    refine lv_iconst (v := (nI 0)) hxe hcd dL_law_2269 (by decide) ?_
    refine l_jld S hU dL_law_2270 ?_
    refine lv_iload hxe hcd dL_law_2271 (lv_at hl 0 rfl) ?_
    refine lv_i2l (v := rb.toInt64) hxe hcd dL_law_2273 rfl ?_
    refine W.lcmp hxe hcd dL_law_2274 ?_
    refine r_as (y := 0) (by rw [hres]; exact lgc_self _) ?_
    refine lv_if_eq (tgt := 2280) hxe hcd dL_law_2275 (by decide) (fun _ => ?_) (fun h => absurd rfl h)
    refine lv_goto (tgt := 2709) hxe hcd dL_law_2280 (by decide) ?_
    exact kk u.1 ω u.2 fd H locs ls hU hCR2 hA2 (lv_sub hl [2, 3, 4, 5, 6, 7] rfl)
theorem lk_L_failedCommand : lkW RL 285 yL_failedCommand cL_failedCommand 3 [(0, 8, 11, 45)] 2 := ⟨g_1171, g_1172, g_66, g_1173, ⟨by decide +kernel, by decide +kernel, by decide +kernel⟩⟩
set_option maxHeartbeats 4000000 in
set_option maxRecDepth 100000 in
theorem c_38 (l : Launch) (hl0 : l.stackTraces = false) {Z : ZT} (hZ : zOK Z) (hZX : ZX Z) (hNC : XNC Z) {wd : WDT} (hw : ZW Z wd) {p : Program} {e : Env} {s : State} {m : MethodId} {below : List Frame} {meth : Method} {c : Code} {b : Nat} (S : CallFix p m c cL_law 9 s #[Value.ref b] GT RL) {L : Nat} {xs : Nat → Int32} (hX : va_X b L xs s s.heap) (hbl : b < s.heap.size) (hL31 : L < 2 ^ 31) {A0 : Nat → Prop} (hbA : ¬ A0 b) {aj ad : Nat} {B : Nat → Nat} {Q : State → Prop} {g : Nat → Bool} {A : Nat × Nat → Nat} {μ : CM} {ν : MM} {f : Nat → Int64} {fd : Nat → UInt64} {H : Heap} {locs : List Loc} {ls : Array Slot} {i cells slots : Nat} (hU : wW Z (LW Z aj ad B (g, A, μ) ν f fd) A0 s H locs) (hCR : CR (g, A, μ) ν) (hi : i + 4 < L) (hl : lv_has ls 9 [(0, .ref b), (1, .ref (A (0, 14))), (2, .ref (B 0)), (3, .ref aj), (4, .ref ad), (5, .int (nI i))]) (hc : cells + 15 ≤ 603072) (hs : slots + 1376 ≤ 7190633)
  (kk : ∀ (v' : GM) (ν' : MM) (f' : Nat → Int64) (fd' : Nat → UInt64) (H' : Heap) (locs' : List Loc) (ls' : Array Slot), wW Z (LW Z aj ad B v' ν' f' fd') A0 s H' locs' → CR v' ν' → v'.2.1 (0, 14) = A (0, 14) → lv_has ls' 9 [(0, .ref b), (1, .ref (A (0, 14))), (2, .ref (B 0)), (3, .ref aj), (4, .ref ad), (5, .int (nI i))] → W p l e room_1 s m #[Value.ref b] below meth c H' locs' (cells + 15) (slots + 1376) Q (F0 m 2709 ls' [])) : W p l e room_1 s m #[Value.ref b] below meth c H locs cells slots Q (F0 m 2283 ls []) := by
  have hxe := S.1
  have hcd := S.2.1
  obtain ⟨hVG, hR, ⟨kr, cn, hkr, hc8, hk15, hcn, hch, hHR⟩, ⟨sv, hs4, hsv1, hm9, hsn⟩, ⟨tn, t, ht17, ht22, htn60, htx⟩, ⟨lN, hl20, hl26, hlN80, hlx⟩, ⟨he10, he11, hep2, hep3⟩, ⟨hwd, hwa⟩⟩ := id hCR
  have hR : RP (μ 0) (ν 1) := hR
  have hk15 : μ 0 15 1 = nI kr := hk15
  have hcn : μ 0 15 2 = nI cn := hcn
  have hHR : HR g μ kr cn (ν 5) := hHR
  have hm9 : μ 0 14 9 = nI sv := hm9
  have hsn : sv = 1 → VG (ν 3) ∧ RP (μ 2) (ν 3) := hsn
  have ht22 : μ 0 22 1 = nI tn := ht22
  have htx : ∀ j, j < tn → ν 8 j = nI (t j) ∧ μ 0 23 j = nI (t j) ∧ t j < 128 := htx
  have hl26 : μ 0 26 1 = nI lN := hl26
  have hlx : ∀ j, j < lN → ν 9 j = μ 0 27 j ∧ CH (ν 9 j) := hlx
  refine lv_aload_n hxe hcd dL_law_2283 rfl (lv_at hl 1 rfl) ?_
  refine lv_aload_n hxe hcd dL_law_2284 rfl (lv_at hl 3 rfl) ?_
  refine l_J hZ S hU (As := [.ref (A (0, 14)), .ref aj]) (rest := []) (t_L_failedCommand l hl0 hZ hZX hNC aj f A g μ H.size ) lk_L_failedCommand hl.1 rfl rfl (Nat.le_of_ble_eq_true rfl) ⟨(Nat.le_of_ble_eq_true rfl), (Nat.le_of_ble_eq_true rfl)⟩ ⟨hc, hs⟩ dL_law_2285 (fun r u H locs hC hU => ?_)
  refine lv_istore (lv' := [(6, .int r), (0, .ref b), (1, .ref (A (0, 14))), (2, .ref (B 0)), (3, .ref aj), (4, .ref ad), (5, .int (nI i))]) hxe hcd dL_law_2288 hl (by decide) rfl (fun ls hl => ?_)
  refine lv_aload_n hxe hcd dL_law_2290 rfl (lv_at hl 3 rfl) ?_
  refine l_Mi hZ S hU (As := []) (rest := []) (t_X10_failedCommand l hZ B ν H.size ) k_L_287 (l_rm hU) hl.1 rfl rfl (Nat.le_of_ble_eq_true rfl) ⟨(Nat.le_of_ble_eq_true rfl), (Nat.le_of_ble_eq_true rfl)⟩ ⟨hc, hs⟩ dL_law_2291 (fun rb ω H locs hM hU => ?_)
  obtain ⟨hCR2, hA2, hth, hres⟩ := j_failedCommand hCR hkr hc8 hch hHR  (v := ν 1) rfl hC hM
  refine lv_istore (lv' := [(7, .int rb), (6, .int r), (0, .ref b), (1, .ref (A (0, 14))), (2, .ref (B 0)), (3, .ref aj), (4, .ref ad), (5, .int (nI i))]) hxe hcd dL_law_2294 hl (by decide) rfl (fun ls hl => ?_)
  refine lv_aload_n hxe hcd dL_law_2296 rfl (lv_at hl 4 rfl) ?_
  refine l_T hZ S hU (As := []) (rest := []) (t_X10_thrown l hZ B ω H.size) k_L_158 (l_rm hU) hl.1 rfl rfl (Nat.le_of_ble_eq_true rfl) ⟨(Nat.le_of_ble_eq_true rfl), (Nat.le_of_ble_eq_true rfl)⟩ ⟨hc, hs⟩ dL_law_2297 (fun r3 H locs h3 hU => ?_)
  have h3 := h3.symm
  subst h3
  refine r_as hth ?_
  refine lv_iload hxe hcd dL_law_2300 (lv_at hl 1 rfl) ?_
  refine lv_icmp_eq (tgt := 2307) hxe hcd dL_law_2302 (by decide) (fun _ => ?_) (fun h => absurd rfl h)
  refine lv_iload hxe hcd dL_law_2307 (lv_at hl 1 rfl) ?_
  refine lv_if_ne (tgt := 2324) hxe hcd dL_law_2309 (by decide) (fun hk => ?_) (fun hk => ?_)
  · refine lv_goto (tgt := 2709) hxe hcd dL_law_2324 (by decide) ?_
    exact kk u.1 ω u.2 fd H locs ls hU hCR2 hA2 (lv_sub hl [2, 3, 4, 5, 6, 7] rfl)
  · have hres := hres hk
    refine lv_aload_n hxe hcd dL_law_2312 rfl (lv_at hl 5 rfl) ?_
    refine lv_iconst (v := (nI 0)) hxe hcd dL_law_2313 (by decide) ?_
    refine l_jld S hU dL_law_2314 ?_
    refine lv_iload hxe hcd dL_law_2315 (lv_at hl 0 rfl) ?_
    refine lv_i2l (v := rb.toInt64) hxe hcd dL_law_2317 rfl ?_
    refine W.lcmp hxe hcd dL_law_2318 ?_
    refine r_as (y := 0) (by rw [hres]; exact lgc_self _) ?_
    refine lv_if_eq (tgt := 2324) hxe hcd dL_law_2319 (by decide) (fun _ => ?_) (fun h => absurd rfl h)
    refine lv_goto (tgt := 2709) hxe hcd dL_law_2324 (by decide) ?_
    exact kk u.1 ω u.2 fd H locs ls hU hCR2 hA2 (lv_sub hl [2, 3, 4, 5, 6, 7] rfl)
set_option maxHeartbeats 4000000 in
set_option maxRecDepth 100000 in
theorem c_39 (l : Launch) (hl0 : l.stackTraces = false) {Z : ZT} (hZ : zOK Z) (hZX : ZX Z) (hNC : XNC Z) {wd : WDT} (hw : ZW Z wd) {p : Program} {e : Env} {s : State} {m : MethodId} {below : List Frame} {meth : Method} {c : Code} {b : Nat} (S : CallFix p m c cL_law 9 s #[Value.ref b] GT RL) {L : Nat} {xs : Nat → Int32} (hX : va_X b L xs s s.heap) (hbl : b < s.heap.size) (hL31 : L < 2 ^ 31) {A0 : Nat → Prop} (hbA : ¬ A0 b) {aj ad : Nat} {B : Nat → Nat} {Q : State → Prop} {g : Nat → Bool} {A : Nat × Nat → Nat} {μ : CM} {ν : MM} {f : Nat → Int64} {fd : Nat → UInt64} {H : Heap} {locs : List Loc} {ls : Array Slot} {i cells slots : Nat} (hU : wW Z (LW Z aj ad B (g, A, μ) ν f fd) A0 s H locs) (hCR : CR (g, A, μ) ν) (hi : i + 4 < L) (hl : lv_has ls 9 [(0, .ref b), (1, .ref (A (0, 14))), (2, .ref (B 0)), (3, .ref aj), (4, .ref ad), (5, .int (nI i))]) (hc : cells + 15 ≤ 603072) (hs : slots + 1376 ≤ 7190633)
  (kk : ∀ (v' : GM) (ν' : MM) (f' : Nat → Int64) (fd' : Nat → UInt64) (H' : Heap) (locs' : List Loc) (ls' : Array Slot), wW Z (LW Z aj ad B v' ν' f' fd') A0 s H' locs' → CR v' ν' → v'.2.1 (0, 14) = A (0, 14) → lv_has ls' 9 [(0, .ref b), (1, .ref (A (0, 14))), (2, .ref (B 0)), (3, .ref aj), (4, .ref ad), (5, .int (nI i))] → W p l e room_1 s m #[Value.ref b] below meth c H' locs' (cells + 15) (slots + 1376) Q (F0 m 2709 ls' [])) : W p l e room_1 s m #[Value.ref b] below meth c H locs cells slots Q (F0 m 2327 ls []) := by
  have hxe := S.1
  have hcd := S.2.1
  obtain ⟨hVG, hR, ⟨kr, cn, hkr, hc8, hk15, hcn, hch, hHR⟩, ⟨sv, hs4, hsv1, hm9, hsn⟩, ⟨tn, t, ht17, ht22, htn60, htx⟩, ⟨lN, hl20, hl26, hlN80, hlx⟩, ⟨he10, he11, hep2, hep3⟩, ⟨hwd, hwa⟩⟩ := id hCR
  have hR : RP (μ 0) (ν 1) := hR
  have hk15 : μ 0 15 1 = nI kr := hk15
  have hcn : μ 0 15 2 = nI cn := hcn
  have hHR : HR g μ kr cn (ν 5) := hHR
  have hm9 : μ 0 14 9 = nI sv := hm9
  have hsn : sv = 1 → VG (ν 3) ∧ RP (μ 2) (ν 3) := hsn
  have ht22 : μ 0 22 1 = nI tn := ht22
  have htx : ∀ j, j < tn → ν 8 j = nI (t j) ∧ μ 0 23 j = nI (t j) ∧ t j < 128 := htx
  have hl26 : μ 0 26 1 = nI lN := hl26
  have hlx : ∀ j, j < lN → ν 9 j = μ 0 27 j ∧ CH (ν 9 j) := hlx
  refine lv_aload_n hxe hcd dL_law_2327 rfl (lv_at hl 1 rfl) ?_
  refine l_C (mc := 15) (ms := 1376) hZ S hU (As := []) (rest := []) (fun _ _ h => h) (t_X9_describeChain l hl0 hZ hZX A g μ H.size hVG hR) k_L_288 (l_rc hU) hl.1 rfl rfl (Nat.le_of_ble_eq_true rfl) ⟨(Nat.le_of_ble_eq_true rfl), (Nat.le_of_ble_eq_true rfl)⟩ ⟨hc, hs⟩ dL_law_2328 (fun r u H locs hC hU => ?_)
  refine lv_aload_n hxe hcd dL_law_2331 rfl (lv_at hl 2 rfl) ?_
  refine l_Mi hZ S hU (As := []) (rest := [.int r]) (t_X10_describeChain l hZ B ν H.size hVG.1.1 hVG.1.2 (psV (ν 1)) hVG.2.2.2.2.2.2.1) k_L_291 (l_rm hU) hl.1 rfl rfl (Nat.le_of_ble_eq_true rfl) ⟨(Nat.le_of_ble_eq_true rfl), (Nat.le_of_ble_eq_true rfl)⟩ ⟨hc, hs⟩ dL_law_2332 (fun rb ω H locs hM hU => ?_)
  obtain ⟨hCR2, hA2, hrb⟩ := j_describeChain hCR (v := ν 1) rfl hC hM
  subst hrb
  refine lv_icmp_eq (tgt := 2709) hxe hcd dL_law_2335 (by decide) (fun _ => ?_) (fun h => absurd rfl h)
  exact kk u ω f fd H locs ls hU hCR2 hA2 (lv_sub hl [0, 1, 2, 3, 4, 5] rfl)
theorem lk_L_describeTank : lkW RL 292 yL_describeTank cL_describeTank 4 [(0, 9, 12, 21)] 3 := ⟨g_1179, g_1180, g_66, g_1181, ⟨by decide +kernel, by decide +kernel, by decide +kernel⟩⟩
set_option maxHeartbeats 4000000 in
set_option maxRecDepth 100000 in
theorem c_40 (l : Launch) (hl0 : l.stackTraces = false) {Z : ZT} (hZ : zOK Z) (hZX : ZX Z) (hNC : XNC Z) {wd : WDT} (hw : ZW Z wd) {p : Program} {e : Env} {s : State} {m : MethodId} {below : List Frame} {meth : Method} {c : Code} {b : Nat} (S : CallFix p m c cL_law 9 s #[Value.ref b] GT RL) {L : Nat} {xs : Nat → Int32} (hX : va_X b L xs s s.heap) (hbl : b < s.heap.size) (hL31 : L < 2 ^ 31) {A0 : Nat → Prop} (hbA : ¬ A0 b) {aj ad : Nat} {B : Nat → Nat} {Q : State → Prop} {g : Nat → Bool} {A : Nat × Nat → Nat} {μ : CM} {ν : MM} {f : Nat → Int64} {fd : Nat → UInt64} {H : Heap} {locs : List Loc} {ls : Array Slot} {i cells slots : Nat} (hU : wW Z (LW Z aj ad B (g, A, μ) ν f fd) A0 s H locs) (hCR : CR (g, A, μ) ν) (hi : i + 4 < L) (hl : lv_has ls 9 [(0, .ref b), (1, .ref (A (0, 14))), (2, .ref (B 0)), (3, .ref aj), (4, .ref ad), (5, .int (nI i))]) (hc : cells + 15 ≤ 603072) (hs : slots + 1376 ≤ 7190633)
  (kk : ∀ (v' : GM) (ν' : MM) (f' : Nat → Int64) (fd' : Nat → UInt64) (H' : Heap) (locs' : List Loc) (ls' : Array Slot), wW Z (LW Z aj ad B v' ν' f' fd') A0 s H' locs' → CR v' ν' → v'.2.1 (0, 14) = A (0, 14) → lv_has ls' 9 [(0, .ref b), (1, .ref (A (0, 14))), (2, .ref (B 0)), (3, .ref aj), (4, .ref ad), (5, .int (nI i))] → W p l e room_1 s m #[Value.ref b] below meth c H' locs' (cells + 15) (slots + 1376) Q (F0 m 2709 ls' [])) : W p l e room_1 s m #[Value.ref b] below meth c H locs cells slots Q (F0 m 2340 ls []) := by
  have hxe := S.1
  have hcd := S.2.1
  obtain ⟨hVG, hR, ⟨kr, cn, hkr, hc8, hk15, hcn, hch, hHR⟩, ⟨sv, hs4, hsv1, hm9, hsn⟩, ⟨tn, t, ht17, ht22, htn60, htx⟩, ⟨lN, hl20, hl26, hlN80, hlx⟩, ⟨he10, he11, hep2, hep3⟩, ⟨hwd, hwa⟩⟩ := id hCR
  have hR : RP (μ 0) (ν 1) := hR
  have hk15 : μ 0 15 1 = nI kr := hk15
  have hcn : μ 0 15 2 = nI cn := hcn
  have hHR : HR g μ kr cn (ν 5) := hHR
  have hm9 : μ 0 14 9 = nI sv := hm9
  have hsn : sv = 1 → VG (ν 3) ∧ RP (μ 2) (ν 3) := hsn
  have ht22 : μ 0 22 1 = nI tn := ht22
  have htx : ∀ j, j < tn → ν 8 j = nI (t j) ∧ μ 0 23 j = nI (t j) ∧ t j < 128 := htx
  have hl26 : μ 0 26 1 = nI lN := hl26
  have hlx : ∀ j, j < lN → ν 9 j = μ 0 27 j ∧ CH (ν 9 j) := hlx
  refine lv_aload_n hxe hcd dL_law_2340 rfl (lv_at hl 1 rfl) ?_
  refine lv_aload_n hxe hcd dL_law_2341 rfl (lv_at hl 0 rfl) ?_
  refine lv_iload hxe hcd dL_law_2342 (lv_at hl 5 rfl) ?_
  refine lv_iconst (v := (nI 1)) hxe hcd dL_law_2344 (by decide) ?_
  refine n_iadd S (a := i) (b := 1) dL_law_2345 ?_
  refine l_sc S hU hX hbl hbA (j := (i + 1)) (by omega) hL31 dL_law_2346 ?_
  refine lv_aload_n hxe hcd dL_law_2347 rfl (lv_at hl 3 rfl) ?_
  refine l_J hZ S hU (As := [.ref (A (0, 14)), .int (xs (i + 1)), .ref aj]) (rest := []) (t_L_describeTank l hl0 hZ hZX hNC aj f A g μ H.size hVG hR (xs (i + 1))) lk_L_describeTank hl.1 rfl rfl (Nat.le_of_ble_eq_true rfl) ⟨(Nat.le_of_ble_eq_true rfl), (Nat.le_of_ble_eq_true rfl)⟩ ⟨hc, hs⟩ dL_law_2348 (fun r u H locs hC hU => ?_)
  refine lv_istore (lv' := [(6, .int r), (0, .ref b), (1, .ref (A (0, 14))), (2, .ref (B 0)), (3, .ref aj), (4, .ref ad), (5, .int (nI i))]) hxe hcd dL_law_2351 hl (by decide) rfl (fun ls hl => ?_)
  refine lv_aload_n hxe hcd dL_law_2353 rfl (lv_at hl 3 rfl) ?_
  refine lv_aload_n hxe hcd dL_law_2354 rfl (lv_at hl 1 rfl) ?_
  refine lv_iload hxe hcd dL_law_2355 (lv_at hl 6 rfl) ?_
  refine lv_iconst (v := (nI 1)) hxe hcd dL_law_2357 (by decide) ?_
  refine n_iadd S (a := i) (b := 1) dL_law_2358 ?_
  refine l_sc S hU hX hbl hbA (j := (i + 1)) (by omega) hL31 dL_law_2359 ?_
  refine l_Mi hZ S hU (As := [.int (xs (i + 1))]) (rest := []) (t_X10_describeTank l hZ B ν H.size hVG.2.1.1 hVG.2.1.2 (cpN (ν 1)) (lvN (ν 1)) hVG.2.2.2.2.2.2.2.1 (tuN (ν 1)) hVG.2.2.2.2.2.2.2.2.2.1 (frN (ν 1)) hVG.2.2.2.2.2.2.2.2.2.2.1 (xs (i + 1))) k_L_294 (l_rm hU) hl.1 rfl rfl (Nat.le_of_ble_eq_true rfl) ⟨(Nat.le_of_ble_eq_true rfl), (Nat.le_of_ble_eq_true rfl)⟩ ⟨hc, hs⟩ dL_law_2360 (fun rb ω H locs hM hU => ?_)
  obtain ⟨hCR2, hA2, hth, hres⟩ := j_describeTank hCR hkr hc8 hch hHR  (v := ν 1) rfl hC hM
  refine lv_istore (lv' := [(7, .int rb), (6, .int r), (0, .ref b), (1, .ref (A (0, 14))), (2, .ref (B 0)), (3, .ref aj), (4, .ref ad), (5, .int (nI i))]) hxe hcd dL_law_2363 hl (by decide) rfl (fun ls hl => ?_)
  refine lv_aload_n hxe hcd dL_law_2365 rfl (lv_at hl 4 rfl) ?_
  refine l_T hZ S hU (As := []) (rest := []) (t_X10_thrown l hZ B ω H.size) k_L_158 (l_rm hU) hl.1 rfl rfl (Nat.le_of_ble_eq_true rfl) ⟨(Nat.le_of_ble_eq_true rfl), (Nat.le_of_ble_eq_true rfl)⟩ ⟨hc, hs⟩ dL_law_2366 (fun r3 H locs h3 hU => ?_)
  have h3 := h3.symm
  subst h3
  refine r_as hth ?_
  refine lv_iload hxe hcd dL_law_2369 (lv_at hl 1 rfl) ?_
  refine lv_icmp_eq (tgt := 2376) hxe hcd dL_law_2371 (by decide) (fun _ => ?_) (fun h => absurd rfl h)
  refine lv_iload hxe hcd dL_law_2376 (lv_at hl 1 rfl) ?_
  refine lv_if_ne (tgt := 2393) hxe hcd dL_law_2378 (by decide) (fun hk => ?_) (fun hk => ?_)
  · refine lv_goto (tgt := 2709) hxe hcd dL_law_2393 (by decide) ?_
    exact kk u.1 ω u.2 fd H locs ls hU hCR2 hA2 (lv_sub hl [2, 3, 4, 5, 6, 7] rfl)
  · have hres := hres hk
    refine lv_aload_n hxe hcd dL_law_2381 rfl (lv_at hl 5 rfl) ?_
    refine lv_iconst (v := (nI 0)) hxe hcd dL_law_2382 (by decide) ?_
    refine l_jld S hU dL_law_2383 ?_
    refine lv_iload hxe hcd dL_law_2384 (lv_at hl 0 rfl) ?_
    refine lv_i2l (v := rb.toInt64) hxe hcd dL_law_2386 rfl ?_
    refine W.lcmp hxe hcd dL_law_2387 ?_
    refine r_as (y := 0) (by rw [hres]; exact lgc_self _) ?_
    refine lv_if_eq (tgt := 2393) hxe hcd dL_law_2388 (by decide) (fun _ => ?_) (fun h => absurd rfl h)
    refine lv_goto (tgt := 2709) hxe hcd dL_law_2393 (by decide) ?_
    exact kk u.1 ω u.2 fd H locs ls hU hCR2 hA2 (lv_sub hl [2, 3, 4, 5, 6, 7] rfl)
theorem lk_L_lineAt : lkW RL 295 yL_lineAt cL_lineAt 4 [(0, 9, 12, 21)] 3 := ⟨g_1186, g_1187, g_66, g_1188, ⟨by decide +kernel, by decide +kernel, by decide +kernel⟩⟩
set_option maxHeartbeats 4000000 in
set_option maxRecDepth 100000 in
theorem c_41 (l : Launch) (hl0 : l.stackTraces = false) {Z : ZT} (hZ : zOK Z) (hZX : ZX Z) (hNC : XNC Z) {wd : WDT} (hw : ZW Z wd) {p : Program} {e : Env} {s : State} {m : MethodId} {below : List Frame} {meth : Method} {c : Code} {b : Nat} (S : CallFix p m c cL_law 9 s #[Value.ref b] GT RL) {L : Nat} {xs : Nat → Int32} (hX : va_X b L xs s s.heap) (hbl : b < s.heap.size) (hL31 : L < 2 ^ 31) {A0 : Nat → Prop} (hbA : ¬ A0 b) {aj ad : Nat} {B : Nat → Nat} {Q : State → Prop} {g : Nat → Bool} {A : Nat × Nat → Nat} {μ : CM} {ν : MM} {f : Nat → Int64} {fd : Nat → UInt64} {H : Heap} {locs : List Loc} {ls : Array Slot} {i cells slots : Nat} (hU : wW Z (LW Z aj ad B (g, A, μ) ν f fd) A0 s H locs) (hCR : CR (g, A, μ) ν) (hi : i + 4 < L) (hl : lv_has ls 9 [(0, .ref b), (1, .ref (A (0, 14))), (2, .ref (B 0)), (3, .ref aj), (4, .ref ad), (5, .int (nI i))]) (hc : cells + 15 ≤ 603072) (hs : slots + 1376 ≤ 7190633)
  (kk : ∀ (v' : GM) (ν' : MM) (f' : Nat → Int64) (fd' : Nat → UInt64) (H' : Heap) (locs' : List Loc) (ls' : Array Slot), wW Z (LW Z aj ad B v' ν' f' fd') A0 s H' locs' → CR v' ν' → v'.2.1 (0, 14) = A (0, 14) → lv_has ls' 9 [(0, .ref b), (1, .ref (A (0, 14))), (2, .ref (B 0)), (3, .ref aj), (4, .ref ad), (5, .int (nI i))] → W p l e room_1 s m #[Value.ref b] below meth c H' locs' (cells + 15) (slots + 1376) Q (F0 m 2709 ls' [])) : W p l e room_1 s m #[Value.ref b] below meth c H locs cells slots Q (F0 m 2396 ls []) := by
  have hxe := S.1
  have hcd := S.2.1
  obtain ⟨hVG, hR, ⟨kr, cn, hkr, hc8, hk15, hcn, hch, hHR⟩, ⟨sv, hs4, hsv1, hm9, hsn⟩, ⟨tn, t, ht17, ht22, htn60, htx⟩, ⟨lN, hl20, hl26, hlN80, hlx⟩, ⟨he10, he11, hep2, hep3⟩, ⟨hwd, hwa⟩⟩ := id hCR
  have hR : RP (μ 0) (ν 1) := hR
  have hk15 : μ 0 15 1 = nI kr := hk15
  have hcn : μ 0 15 2 = nI cn := hcn
  have hHR : HR g μ kr cn (ν 5) := hHR
  have hm9 : μ 0 14 9 = nI sv := hm9
  have hsn : sv = 1 → VG (ν 3) ∧ RP (μ 2) (ν 3) := hsn
  have ht22 : μ 0 22 1 = nI tn := ht22
  have htx : ∀ j, j < tn → ν 8 j = nI (t j) ∧ μ 0 23 j = nI (t j) ∧ t j < 128 := htx
  have hl26 : μ 0 26 1 = nI lN := hl26
  have hlx : ∀ j, j < lN → ν 9 j = μ 0 27 j ∧ CH (ν 9 j) := hlx
  refine lv_aload_n hxe hcd dL_law_2396 rfl (lv_at hl 1 rfl) ?_
  refine lv_aload_n hxe hcd dL_law_2397 rfl (lv_at hl 0 rfl) ?_
  refine lv_iload hxe hcd dL_law_2398 (lv_at hl 5 rfl) ?_
  refine lv_iconst (v := (nI 1)) hxe hcd dL_law_2400 (by decide) ?_
  refine n_iadd S (a := i) (b := 1) dL_law_2401 ?_
  refine l_sc S hU hX hbl hbA (j := (i + 1)) (by omega) hL31 dL_law_2402 ?_
  refine lv_aload_n hxe hcd dL_law_2403 rfl (lv_at hl 3 rfl) ?_
  refine l_J hZ S hU (As := [.ref (A (0, 14)), .int (xs (i + 1)), .ref aj]) (rest := []) (t_L_lineAt l hl0 hZ hZX hNC aj f A g μ H.size hl26 hlN80 (fun j hj => by rw [← (hlx j hj).1]; exact (hlx j hj).2) (xs (i + 1))) lk_L_lineAt hl.1 rfl rfl (Nat.le_of_ble_eq_true rfl) ⟨(Nat.le_of_ble_eq_true rfl), (Nat.le_of_ble_eq_true rfl)⟩ ⟨hc, hs⟩ dL_law_2404 (fun r u H locs hC hU => ?_)
  refine lv_istore (lv' := [(6, .int r), (0, .ref b), (1, .ref (A (0, 14))), (2, .ref (B 0)), (3, .ref aj), (4, .ref ad), (5, .int (nI i))]) hxe hcd dL_law_2407 hl (by decide) rfl (fun ls hl => ?_)
  refine lv_aload_n hxe hcd dL_law_2409 rfl (lv_at hl 3 rfl) ?_
  refine lv_aload_n hxe hcd dL_law_2410 rfl (lv_at hl 1 rfl) ?_
  refine lv_iload hxe hcd dL_law_2411 (lv_at hl 6 rfl) ?_
  refine lv_iconst (v := (nI 1)) hxe hcd dL_law_2413 (by decide) ?_
  refine n_iadd S (a := i) (b := 1) dL_law_2414 ?_
  refine l_sc S hU hX hbl hbA (j := (i + 1)) (by omega) hL31 dL_law_2415 ?_
  refine l_Mi hZ S hU (As := [.int (xs (i + 1))]) (rest := []) (t_X10_lineAt l hZ B ν H.size hl20 hlN80 (fun j hj => (hlx j hj).2) (xs (i + 1))) k_L_297 (l_rm hU) hl.1 rfl rfl (Nat.le_of_ble_eq_true rfl) ⟨(Nat.le_of_ble_eq_true rfl), (Nat.le_of_ble_eq_true rfl)⟩ ⟨hc, hs⟩ dL_law_2416 (fun rb ω H locs hM hU => ?_)
  obtain ⟨hCR2, hA2, hth, hres⟩ := j_lineAt hCR hkr hc8 hch hHR hlN80 (fun j hj => (hlx j hj).1) (v := ν 1) rfl hC hM
  refine lv_istore (lv' := [(7, .int rb), (6, .int r), (0, .ref b), (1, .ref (A (0, 14))), (2, .ref (B 0)), (3, .ref aj), (4, .ref ad), (5, .int (nI i))]) hxe hcd dL_law_2419 hl (by decide) rfl (fun ls hl => ?_)
  refine lv_aload_n hxe hcd dL_law_2421 rfl (lv_at hl 4 rfl) ?_
  refine l_T hZ S hU (As := []) (rest := []) (t_X10_thrown l hZ B ω H.size) k_L_158 (l_rm hU) hl.1 rfl rfl (Nat.le_of_ble_eq_true rfl) ⟨(Nat.le_of_ble_eq_true rfl), (Nat.le_of_ble_eq_true rfl)⟩ ⟨hc, hs⟩ dL_law_2422 (fun r3 H locs h3 hU => ?_)
  have h3 := h3.symm
  subst h3
  refine r_as hth ?_
  refine lv_iload hxe hcd dL_law_2425 (lv_at hl 1 rfl) ?_
  refine lv_icmp_eq (tgt := 2432) hxe hcd dL_law_2427 (by decide) (fun _ => ?_) (fun h => absurd rfl h)
  refine lv_iload hxe hcd dL_law_2432 (lv_at hl 1 rfl) ?_
  refine lv_if_ne (tgt := 2449) hxe hcd dL_law_2434 (by decide) (fun hk => ?_) (fun hk => ?_)
  · refine lv_goto (tgt := 2709) hxe hcd dL_law_2449 (by decide) ?_
    exact kk u.1 ω u.2 fd H locs ls hU hCR2 hA2 (lv_sub hl [2, 3, 4, 5, 6, 7] rfl)
  · have hres := hres hk
    refine lv_aload_n hxe hcd dL_law_2437 rfl (lv_at hl 5 rfl) ?_
    refine lv_iconst (v := (nI 0)) hxe hcd dL_law_2438 (by decide) ?_
    refine l_jld S hU dL_law_2439 ?_
    refine lv_iload hxe hcd dL_law_2440 (lv_at hl 0 rfl) ?_
    refine lv_i2l (v := rb.toInt64) hxe hcd dL_law_2442 rfl ?_
    refine W.lcmp hxe hcd dL_law_2443 ?_
    refine r_as (y := 0) (by rw [hres]; exact lgc_self _) ?_
    refine lv_if_eq (tgt := 2449) hxe hcd dL_law_2444 (by decide) (fun _ => ?_) (fun h => absurd rfl h)
    refine lv_goto (tgt := 2709) hxe hcd dL_law_2449 (by decide) ?_
    exact kk u.1 ω u.2 fd H locs ls hU hCR2 hA2 (lv_sub hl [2, 3, 4, 5, 6, 7] rfl)
theorem lk_L_meanLevel : lkW RL 298 yL_meanLevel cL_meanLevel 4 [(0, 8, 11, 21), (0, 8, 14, 136)] 3 := ⟨g_1199, g_1200, g_66, g_1201, ⟨by decide +kernel, by decide +kernel, by decide +kernel⟩⟩
set_option maxHeartbeats 4000000 in
set_option maxRecDepth 100000 in
theorem c_42 (l : Launch) (hl0 : l.stackTraces = false) {Z : ZT} (hZ : zOK Z) (hZX : ZX Z) (hNC : XNC Z) {wd : WDT} (hw : ZW Z wd) {p : Program} {e : Env} {s : State} {m : MethodId} {below : List Frame} {meth : Method} {c : Code} {b : Nat} (S : CallFix p m c cL_law 9 s #[Value.ref b] GT RL) {L : Nat} {xs : Nat → Int32} (hX : va_X b L xs s s.heap) (hbl : b < s.heap.size) (hL31 : L < 2 ^ 31) {A0 : Nat → Prop} (hbA : ¬ A0 b) {aj ad : Nat} {B : Nat → Nat} {Q : State → Prop} {g : Nat → Bool} {A : Nat × Nat → Nat} {μ : CM} {ν : MM} {f : Nat → Int64} {fd : Nat → UInt64} {H : Heap} {locs : List Loc} {ls : Array Slot} {i cells slots : Nat} (hU : wW Z (LW Z aj ad B (g, A, μ) ν f fd) A0 s H locs) (hCR : CR (g, A, μ) ν) (hi : i + 4 < L) (hl : lv_has ls 9 [(0, .ref b), (1, .ref (A (0, 14))), (2, .ref (B 0)), (3, .ref aj), (4, .ref ad), (5, .int (nI i))]) (hc : cells + 15 ≤ 603072) (hs : slots + 1376 ≤ 7190633)
  (kk : ∀ (v' : GM) (ν' : MM) (f' : Nat → Int64) (fd' : Nat → UInt64) (H' : Heap) (locs' : List Loc) (ls' : Array Slot), wW Z (LW Z aj ad B v' ν' f' fd') A0 s H' locs' → CR v' ν' → v'.2.1 (0, 14) = A (0, 14) → lv_has ls' 9 [(0, .ref b), (1, .ref (A (0, 14))), (2, .ref (B 0)), (3, .ref aj), (4, .ref ad), (5, .int (nI i))] → W p l e room_1 s m #[Value.ref b] below meth c H' locs' (cells + 15) (slots + 1376) Q (F0 m 2709 ls' [])) : W p l e room_1 s m #[Value.ref b] below meth c H locs cells slots Q (F0 m 2452 ls []) := by
  have hxe := S.1
  have hcd := S.2.1
  obtain ⟨hVG, hR, ⟨kr, cn, hkr, hc8, hk15, hcn, hch, hHR⟩, ⟨sv, hs4, hsv1, hm9, hsn⟩, ⟨tn, t, ht17, ht22, htn60, htx⟩, ⟨lN, hl20, hl26, hlN80, hlx⟩, ⟨he10, he11, hep2, hep3⟩, ⟨hwd, hwa⟩⟩ := id hCR
  have hR : RP (μ 0) (ν 1) := hR
  have hk15 : μ 0 15 1 = nI kr := hk15
  have hcn : μ 0 15 2 = nI cn := hcn
  have hHR : HR g μ kr cn (ν 5) := hHR
  have hm9 : μ 0 14 9 = nI sv := hm9
  have hsn : sv = 1 → VG (ν 3) ∧ RP (μ 2) (ν 3) := hsn
  have ht22 : μ 0 22 1 = nI tn := ht22
  have htx : ∀ j, j < tn → ν 8 j = nI (t j) ∧ μ 0 23 j = nI (t j) ∧ t j < 128 := htx
  have hl26 : μ 0 26 1 = nI lN := hl26
  have hlx : ∀ j, j < lN → ν 9 j = μ 0 27 j ∧ CH (ν 9 j) := hlx
  refine lv_aload_n hxe hcd dL_law_2452 rfl (lv_at hl 1 rfl) ?_
  refine lv_aload_n hxe hcd dL_law_2453 rfl (lv_at hl 0 rfl) ?_
  refine lv_iload hxe hcd dL_law_2454 (lv_at hl 5 rfl) ?_
  refine lv_iconst (v := (nI 1)) hxe hcd dL_law_2456 (by decide) ?_
  refine n_iadd S (a := i) (b := 1) dL_law_2457 ?_
  refine l_sc S hU hX hbl hbA (j := (i + 1)) (by omega) hL31 dL_law_2458 ?_
  refine lv_aload hxe hcd dL_law_2459 (lv_at hl 4 rfl) ?_
  refine l_D hZ S hU (As := [.ref (A (0, 14)), .int (xs (i + 1)), .ref ad]) (rest := []) (t_L_meanLevel l hl0 hZ hZX hNC ad fd A g μ H.size hVG hR (xs (i + 1))) lk_L_meanLevel hl.1 rfl rfl (Nat.le_of_ble_eq_true rfl) ⟨(Nat.le_of_ble_eq_true rfl), (Nat.le_of_ble_eq_true rfl)⟩ ⟨hc, hs⟩ dL_law_2461 (fun r u H locs hC hU => ?_)
  refine lv_istore (lv' := [(6, .int r), (0, .ref b), (1, .ref (A (0, 14))), (2, .ref (B 0)), (3, .ref aj), (4, .ref ad), (5, .int (nI i))]) hxe hcd dL_law_2464 hl (by decide) rfl (fun ls hl => ?_)
  refine lv_aload_n hxe hcd dL_law_2466 rfl (lv_at hl 3 rfl) ?_
  refine lv_aload_n hxe hcd dL_law_2467 rfl (lv_at hl 1 rfl) ?_
  refine lv_iload hxe hcd dL_law_2468 (lv_at hl 6 rfl) ?_
  refine lv_iconst (v := (nI 1)) hxe hcd dL_law_2470 (by decide) ?_
  refine n_iadd S (a := i) (b := 1) dL_law_2471 ?_
  refine l_sc S hU hX hbl hbA (j := (i + 1)) (by omega) hL31 dL_law_2472 ?_
  refine l_Md hZ S hU (As := [.int (xs (i + 1))]) (rest := []) (t_X10_meanLevel l hZ B ν H.size (lnV (ν 1)) hVG.2.2.1 hVG.1.1 hVG.1.2 (psV (ν 1)) hVG.2.2.2.2.2.2.1 (xs (i + 1))) k_L_301 (l_rm hU) hl.1 rfl rfl (Nat.le_of_ble_eq_true rfl) ⟨(Nat.le_of_ble_eq_true rfl), (Nat.le_of_ble_eq_true rfl)⟩ ⟨hc, hs⟩ dL_law_2473 (fun rb ω H locs hM hU => ?_)
  obtain ⟨hCR2, hA2, hth, hres⟩ := j_meanLevel hCR hkr hc8 hch hHR  (v := ν 1) rfl hC hM
  refine lv_dstore (lv' := [(7, .double rb), (6, .int r), (0, .ref b), (1, .ref (A (0, 14))), (2, .ref (B 0)), (3, .ref aj), (4, .ref ad), (5, .int (nI i))]) hxe hcd dL_law_2476 hl (by decide) rfl (fun ls hl => ?_)
  refine lv_aload_n hxe hcd dL_law_2478 rfl (lv_at hl 4 rfl) ?_
  refine l_T hZ S hU (As := []) (rest := []) (t_X10_thrown l hZ B ω H.size) k_L_158 (l_rm hU) hl.1 rfl rfl (Nat.le_of_ble_eq_true rfl) ⟨(Nat.le_of_ble_eq_true rfl), (Nat.le_of_ble_eq_true rfl)⟩ ⟨hc, hs⟩ dL_law_2479 (fun r3 H locs h3 hU => ?_)
  have h3 := h3.symm
  subst h3
  refine r_as hth ?_
  refine lv_iload hxe hcd dL_law_2482 (lv_at hl 1 rfl) ?_
  refine lv_icmp_eq (tgt := 2489) hxe hcd dL_law_2484 (by decide) (fun _ => ?_) (fun h => absurd rfl h)
  refine lv_iload hxe hcd dL_law_2489 (lv_at hl 1 rfl) ?_
  refine lv_if_ne (tgt := 2526) hxe hcd dL_law_2491 (by decide) (fun hk => ?_) (fun hk => ?_)
  · refine lv_goto (tgt := 2709) hxe hcd dL_law_2526 (by decide) ?_
    exact kk u.1 ω f u.2 H locs ls hU hCR2 hA2 (lv_sub hl [2, 3, 4, 5, 6, 7] rfl)
  · have hres := hres hk
    refine lv_aload hxe hcd dL_law_2494 (lv_at hl 6 rfl) ?_
    refine lv_iconst (v := (nI 0)) hxe hcd dL_law_2496 (by decide) ?_
    refine l_dld S hU dL_law_2497 ?_
    refine r_st (st' := [.double rb]) (by rw [hres]) ?_
    refine lv_dload hxe hcd dL_law_2498 (lv_at hl 0 rfl) ?_
    refine lv_dcmp hxe hcd dL_law_2500 ?_
    obtain ⟨z, hz⟩ : ∃ z, z = Op.cmpValue (FP.dcmp rb rb) CmpOp.l := ⟨_, rfl⟩
    rw [← hz]
    refine lv_if_eq (tgt := 2526) hxe hcd dL_law_2501 (by decide) (fun _ => ?_) (fun hz0 => ?_)
    · refine lv_goto (tgt := 2709) hxe hcd dL_law_2526 (by decide) ?_
      exact kk u.1 ω f u.2 H locs ls hU hCR2 hA2 (lv_sub hl [2, 3, 4, 5, 6, 7] rfl)
    · refine lv_aload hxe hcd dL_law_2504 (lv_at hl 6 rfl) ?_
      refine lv_iconst (v := (nI 0)) hxe hcd dL_law_2506 (by decide) ?_
      refine l_dld S hU dL_law_2507 ?_
      refine lv_aload hxe hcd dL_law_2508 (lv_at hl 6 rfl) ?_
      refine lv_iconst (v := (nI 0)) hxe hcd dL_law_2510 (by decide) ?_
      refine l_dld S hU dL_law_2511 ?_
      refine r_st (st' := [.double rb, .double rb]) (by rw [hres]) ?_
      refine lv_dcmp hxe hcd dL_law_2512 ?_
      rw [← hz]
      refine lv_if_eq (tgt := 2524) hxe hcd dL_law_2513 (by decide) (fun h => absurd h hz0) (fun _ => ?_)
      refine lv_dload hxe hcd dL_law_2516 (lv_at hl 0 rfl) ?_
      refine lv_dload hxe hcd dL_law_2518 (lv_at hl 0 rfl) ?_
      refine lv_dcmp hxe hcd dL_law_2520 ?_
      rw [← hz]
      refine lv_if_ne (tgt := 2526) hxe hcd dL_law_2521 (by decide) (fun _ => ?_) (fun h => absurd h hz0)
      refine lv_goto (tgt := 2709) hxe hcd dL_law_2526 (by decide) ?_
      exact kk u.1 ω f u.2 H locs ls hU hCR2 hA2 (lv_sub hl [2, 3, 4, 5, 6, 7] rfl)
theorem lk_L_filledShare : lkW RL 302 yL_filledShare cL_filledShare 3 [(0, 8, 11, 136)] 2 := ⟨g_1223, g_1224, g_66, g_1225, ⟨by decide +kernel, by decide +kernel, by decide +kernel⟩⟩
set_option maxHeartbeats 4000000 in
set_option maxRecDepth 100000 in
theorem c_43 (l : Launch) (hl0 : l.stackTraces = false) {Z : ZT} (hZ : zOK Z) (hZX : ZX Z) (hNC : XNC Z) {wd : WDT} (hw : ZW Z wd) {p : Program} {e : Env} {s : State} {m : MethodId} {below : List Frame} {meth : Method} {c : Code} {b : Nat} (S : CallFix p m c cL_law 9 s #[Value.ref b] GT RL) {L : Nat} {xs : Nat → Int32} (hX : va_X b L xs s s.heap) (hbl : b < s.heap.size) (hL31 : L < 2 ^ 31) {A0 : Nat → Prop} (hbA : ¬ A0 b) {aj ad : Nat} {B : Nat → Nat} {Q : State → Prop} {g : Nat → Bool} {A : Nat × Nat → Nat} {μ : CM} {ν : MM} {f : Nat → Int64} {fd : Nat → UInt64} {H : Heap} {locs : List Loc} {ls : Array Slot} {i cells slots : Nat} (hU : wW Z (LW Z aj ad B (g, A, μ) ν f fd) A0 s H locs) (hCR : CR (g, A, μ) ν) (hi : i + 4 < L) (hl : lv_has ls 9 [(0, .ref b), (1, .ref (A (0, 14))), (2, .ref (B 0)), (3, .ref aj), (4, .ref ad), (5, .int (nI i))]) (hc : cells + 15 ≤ 603072) (hs : slots + 1376 ≤ 7190633)
  (kk : ∀ (v' : GM) (ν' : MM) (f' : Nat → Int64) (fd' : Nat → UInt64) (H' : Heap) (locs' : List Loc) (ls' : Array Slot), wW Z (LW Z aj ad B v' ν' f' fd') A0 s H' locs' → CR v' ν' → v'.2.1 (0, 14) = A (0, 14) → lv_has ls' 9 [(0, .ref b), (1, .ref (A (0, 14))), (2, .ref (B 0)), (3, .ref aj), (4, .ref ad), (5, .int (nI i))] → W p l e room_1 s m #[Value.ref b] below meth c H' locs' (cells + 15) (slots + 1376) Q (F0 m 2709 ls' [])) : W p l e room_1 s m #[Value.ref b] below meth c H locs cells slots Q (F0 m 2529 ls []) := by
  have hxe := S.1
  have hcd := S.2.1
  obtain ⟨hVG, hR, ⟨kr, cn, hkr, hc8, hk15, hcn, hch, hHR⟩, ⟨sv, hs4, hsv1, hm9, hsn⟩, ⟨tn, t, ht17, ht22, htn60, htx⟩, ⟨lN, hl20, hl26, hlN80, hlx⟩, ⟨he10, he11, hep2, hep3⟩, ⟨hwd, hwa⟩⟩ := id hCR
  have hR : RP (μ 0) (ν 1) := hR
  have hk15 : μ 0 15 1 = nI kr := hk15
  have hcn : μ 0 15 2 = nI cn := hcn
  have hHR : HR g μ kr cn (ν 5) := hHR
  have hm9 : μ 0 14 9 = nI sv := hm9
  have hsn : sv = 1 → VG (ν 3) ∧ RP (μ 2) (ν 3) := hsn
  have ht22 : μ 0 22 1 = nI tn := ht22
  have htx : ∀ j, j < tn → ν 8 j = nI (t j) ∧ μ 0 23 j = nI (t j) ∧ t j < 128 := htx
  have hl26 : μ 0 26 1 = nI lN := hl26
  have hlx : ∀ j, j < lN → ν 9 j = μ 0 27 j ∧ CH (ν 9 j) := hlx
  refine lv_aload_n hxe hcd dL_law_2529 rfl (lv_at hl 1 rfl) ?_
  refine lv_aload hxe hcd dL_law_2530 (lv_at hl 4 rfl) ?_
  refine l_D hZ S hU (As := [.ref (A (0, 14)), .ref ad]) (rest := []) (t_L_filledShare l hl0 hZ hZX hNC ad fd A g μ H.size hVG hR) lk_L_filledShare hl.1 rfl rfl (Nat.le_of_ble_eq_true rfl) ⟨(Nat.le_of_ble_eq_true rfl), (Nat.le_of_ble_eq_true rfl)⟩ ⟨hc, hs⟩ dL_law_2532 (fun r u H locs hC hU => ?_)
  refine lv_istore (lv' := [(6, .int r), (0, .ref b), (1, .ref (A (0, 14))), (2, .ref (B 0)), (3, .ref aj), (4, .ref ad), (5, .int (nI i))]) hxe hcd dL_law_2535 hl (by decide) rfl (fun ls hl => ?_)
  refine lv_aload_n hxe hcd dL_law_2537 rfl (lv_at hl 3 rfl) ?_
  refine l_Mf hZ S hU (As := []) (rest := []) (t_X10_filledShare l hZ B ν H.size hVG.2.1.1 hVG.2.1.2 (cpN (ν 1)) (lvN (ν 1)) hVG.2.2.2.2.2.2.2.1 hVG.2.2.2.2.2.2.2.2.1) k_L_305 (l_rm hU) hl.1 rfl rfl (Nat.le_of_ble_eq_true rfl) ⟨(Nat.le_of_ble_eq_true rfl), (Nat.le_of_ble_eq_true rfl)⟩ ⟨hc, hs⟩ dL_law_2538 (fun rb ω H locs hM hU => ?_)
  obtain ⟨hCR2, hA2, hth, hres⟩ := j_filledShare hCR hkr hc8 hch hHR  (v := ν 1) rfl hC hM
  refine lv_fstore (lv' := [(7, .float rb), (6, .int r), (0, .ref b), (1, .ref (A (0, 14))), (2, .ref (B 0)), (3, .ref aj), (4, .ref ad), (5, .int (nI i))]) hxe hcd dL_law_2541 hl (by decide) rfl (fun ls hl => ?_)
  refine lv_aload_n hxe hcd dL_law_2543 rfl (lv_at hl 4 rfl) ?_
  refine l_T hZ S hU (As := []) (rest := []) (t_X10_thrown l hZ B ω H.size) k_L_158 (l_rm hU) hl.1 rfl rfl (Nat.le_of_ble_eq_true rfl) ⟨(Nat.le_of_ble_eq_true rfl), (Nat.le_of_ble_eq_true rfl)⟩ ⟨hc, hs⟩ dL_law_2544 (fun r3 H locs h3 hU => ?_)
  have h3 := h3.symm
  subst h3
  refine r_as hth ?_
  refine lv_iload hxe hcd dL_law_2547 (lv_at hl 1 rfl) ?_
  refine lv_icmp_eq (tgt := 2554) hxe hcd dL_law_2549 (by decide) (fun _ => ?_) (fun h => absurd rfl h)
  refine lv_iload hxe hcd dL_law_2554 (lv_at hl 1 rfl) ?_
  refine lv_if_ne (tgt := 2592) hxe hcd dL_law_2556 (by decide) (fun hk => ?_) (fun hk => ?_)
  · refine lv_goto (tgt := 2709) hxe hcd dL_law_2592 (by decide) ?_
    exact kk u.1 ω f u.2 H locs ls hU hCR2 hA2 (lv_sub hl [2, 3, 4, 5, 6, 7] rfl)
  · have hres := hres hk
    refine lv_aload hxe hcd dL_law_2559 (lv_at hl 6 rfl) ?_
    refine lv_iconst (v := (nI 0)) hxe hcd dL_law_2561 (by decide) ?_
    have hfs := fs_ok hVG hM
    refine l_dld S hU dL_law_2562 ?_
    refine r_st (st' := [.double (FP.f2d rb)]) (by rw [hres]) ?_
    refine lv_fload hxe hcd dL_law_2563 (lv_at hl 0 rfl) ?_
    refine lv_f2d hxe hcd dL_law_2565 hfs.1 ?_
    refine lv_dcmp hxe hcd dL_law_2566 ?_
    refine r_as (y := 0) hfs.2 ?_
    refine lv_if_eq (tgt := 2592) hxe hcd dL_law_2567 (by decide) (fun _ => ?_) (fun h => absurd rfl h)
    refine lv_goto (tgt := 2709) hxe hcd dL_law_2592 (by decide) ?_
    exact kk u.1 ω f u.2 H locs ls hU hCR2 hA2 (lv_sub hl [2, 3, 4, 5, 6, 7] rfl)
set_option maxHeartbeats 4000000 in
set_option maxRecDepth 100000 in
theorem c_44 (l : Launch) (hl0 : l.stackTraces = false) {Z : ZT} (hZ : zOK Z) (hZX : ZX Z) (hNC : XNC Z) {wd : WDT} (hw : ZW Z wd) {p : Program} {e : Env} {s : State} {m : MethodId} {below : List Frame} {meth : Method} {c : Code} {b : Nat} (S : CallFix p m c cL_law 9 s #[Value.ref b] GT RL) {L : Nat} {xs : Nat → Int32} (hX : va_X b L xs s s.heap) (hbl : b < s.heap.size) (hL31 : L < 2 ^ 31) {A0 : Nat → Prop} (hbA : ¬ A0 b) {aj ad : Nat} {B : Nat → Nat} {Q : State → Prop} {g : Nat → Bool} {A : Nat × Nat → Nat} {μ : CM} {ν : MM} {f : Nat → Int64} {fd : Nat → UInt64} {H : Heap} {locs : List Loc} {ls : Array Slot} {i cells slots : Nat} (hU : wW Z (LW Z aj ad B (g, A, μ) ν f fd) A0 s H locs) (hCR : CR (g, A, μ) ν) (hi : i + 4 < L) (hl : lv_has ls 9 [(0, .ref b), (1, .ref (A (0, 14))), (2, .ref (B 0)), (3, .ref aj), (4, .ref ad), (5, .int (nI i))]) (hc : cells + 15 ≤ 603072) (hs : slots + 1376 ≤ 7190633)
  (kk : ∀ (v' : GM) (ν' : MM) (f' : Nat → Int64) (fd' : Nat → UInt64) (H' : Heap) (locs' : List Loc) (ls' : Array Slot), wW Z (LW Z aj ad B v' ν' f' fd') A0 s H' locs' → CR v' ν' → v'.2.1 (0, 14) = A (0, 14) → lv_has ls' 9 [(0, .ref b), (1, .ref (A (0, 14))), (2, .ref (B 0)), (3, .ref aj), (4, .ref ad), (5, .int (nI i))] → W p l e room_1 s m #[Value.ref b] below meth c H' locs' (cells + 15) (slots + 1376) Q (F0 m 2709 ls' [])) : W p l e room_1 s m #[Value.ref b] below meth c H locs cells slots Q (F0 m 2595 ls []) := by
  have hxe := S.1
  have hcd := S.2.1
  obtain ⟨hVG, hR, ⟨kr, cn, hkr, hc8, hk15, hcn, hch, hHR⟩, ⟨sv, hs4, hsv1, hm9, hsn⟩, ⟨tn, t, ht17, ht22, htn60, htx⟩, ⟨lN, hl20, hl26, hlN80, hlx⟩, ⟨he10, he11, hep2, hep3⟩, ⟨hwd, hwa⟩⟩ := id hCR
  have hR : RP (μ 0) (ν 1) := hR
  have hk15 : μ 0 15 1 = nI kr := hk15
  have hcn : μ 0 15 2 = nI cn := hcn
  have hHR : HR g μ kr cn (ν 5) := hHR
  have hm9 : μ 0 14 9 = nI sv := hm9
  have hsn : sv = 1 → VG (ν 3) ∧ RP (μ 2) (ν 3) := hsn
  have ht22 : μ 0 22 1 = nI tn := ht22
  have htx : ∀ j, j < tn → ν 8 j = nI (t j) ∧ μ 0 23 j = nI (t j) ∧ t j < 128 := htx
  have hl26 : μ 0 26 1 = nI lN := hl26
  have hlx : ∀ j, j < lN → ν 9 j = μ 0 27 j ∧ CH (ν 9 j) := hlx
  refine lv_aload_n hxe hcd dL_law_2595 rfl (lv_at hl 1 rfl) ?_
  refine l_C (mc := 15) (ms := 1376) hZ S hU (As := []) (rest := []) (fun _ _ h => h) (t_X9_isConsistent l hl0 hZ hZX A g μ H.size hVG hR) k_L_306 (l_rc hU) hl.1 rfl rfl (Nat.le_of_ble_eq_true rfl) ⟨(Nat.le_of_ble_eq_true rfl), (Nat.le_of_ble_eq_true rfl)⟩ ⟨hc, hs⟩ dL_law_2596 (fun r u H locs hC hU => ?_)
  refine lv_aload_n hxe hcd dL_law_2599 rfl (lv_at hl 2 rfl) ?_
  refine l_Mi hZ S hU (As := []) (rest := [.int r]) (t_X10_isConsistent l hZ B ν H.size hVG.2.1.1 hVG.2.1.2 (cpN (ν 1)) (lvN (ν 1)) hVG.2.2.2.2.2.2.2.1) k_L_310 (l_rm hU) hl.1 rfl rfl (Nat.le_of_ble_eq_true rfl) ⟨(Nat.le_of_ble_eq_true rfl), (Nat.le_of_ble_eq_true rfl)⟩ ⟨hc, hs⟩ dL_law_2600 (fun rb ω H locs hM hU => ?_)
  obtain ⟨hCR2, hA2, hrb⟩ := j_isConsistent hCR (v := ν 1) rfl hC hM
  subst hrb
  refine lv_icmp_eq (tgt := 2709) hxe hcd dL_law_2603 (by decide) (fun _ => ?_) (fun h => absurd rfl h)
  exact kk u ω f fd H locs ls hU hCR2 hA2 (lv_sub hl [0, 1, 2, 3, 4, 5] rfl)
theorem lk_L_undo : lkW RL 311 yL_undo cL_undo 3 [(0, 8, 11, 15)] 2 := ⟨g_1235, g_1236, g_66, g_1237, ⟨by decide +kernel, by decide +kernel, by decide +kernel⟩⟩
set_option maxHeartbeats 4000000 in
set_option maxRecDepth 100000 in
theorem c_45 (l : Launch) (hl0 : l.stackTraces = false) {Z : ZT} (hZ : zOK Z) (hZX : ZX Z) (hNC : XNC Z) {wd : WDT} (hw : ZW Z wd) {p : Program} {e : Env} {s : State} {m : MethodId} {below : List Frame} {meth : Method} {c : Code} {b : Nat} (S : CallFix p m c cL_law 9 s #[Value.ref b] GT RL) {L : Nat} {xs : Nat → Int32} (hX : va_X b L xs s s.heap) (hbl : b < s.heap.size) (hL31 : L < 2 ^ 31) {A0 : Nat → Prop} (hbA : ¬ A0 b) {aj ad : Nat} {B : Nat → Nat} {Q : State → Prop} {g : Nat → Bool} {A : Nat × Nat → Nat} {μ : CM} {ν : MM} {f : Nat → Int64} {fd : Nat → UInt64} {H : Heap} {locs : List Loc} {ls : Array Slot} {i cells slots : Nat} (hU : wW Z (LW Z aj ad B (g, A, μ) ν f fd) A0 s H locs) (hCR : CR (g, A, μ) ν) (hi : i + 4 < L) (hl : lv_has ls 9 [(0, .ref b), (1, .ref (A (0, 14))), (2, .ref (B 0)), (3, .ref aj), (4, .ref ad), (5, .int (nI i))]) (hc : cells + 15 ≤ 603072) (hs : slots + 1376 ≤ 7190633)
  (kk : ∀ (v' : GM) (ν' : MM) (f' : Nat → Int64) (fd' : Nat → UInt64) (H' : Heap) (locs' : List Loc) (ls' : Array Slot), wW Z (LW Z aj ad B v' ν' f' fd') A0 s H' locs' → CR v' ν' → v'.2.1 (0, 14) = A (0, 14) → lv_has ls' 9 [(0, .ref b), (1, .ref (A (0, 14))), (2, .ref (B 0)), (3, .ref aj), (4, .ref ad), (5, .int (nI i))] → W p l e room_1 s m #[Value.ref b] below meth c H' locs' (cells + 15) (slots + 1376) Q (F0 m 2709 ls' [])) : W p l e room_1 s m #[Value.ref b] below meth c H locs cells slots Q (F0 m 2608 ls []) := by
  have hxe := S.1
  have hcd := S.2.1
  obtain ⟨hVG, hR, ⟨kr, cn, hkr, hc8, hk15, hcn, hch, hHR⟩, ⟨sv, hs4, hsv1, hm9, hsn⟩, ⟨tn, t, ht17, ht22, htn60, htx⟩, ⟨lN, hl20, hl26, hlN80, hlx⟩, ⟨he10, he11, hep2, hep3⟩, ⟨hwd, hwa⟩⟩ := id hCR
  have hR : RP (μ 0) (ν 1) := hR
  have hk15 : μ 0 15 1 = nI kr := hk15
  have hcn : μ 0 15 2 = nI cn := hcn
  have hHR : HR g μ kr cn (ν 5) := hHR
  have hm9 : μ 0 14 9 = nI sv := hm9
  have hsn : sv = 1 → VG (ν 3) ∧ RP (μ 2) (ν 3) := hsn
  have ht22 : μ 0 22 1 = nI tn := ht22
  have htx : ∀ j, j < tn → ν 8 j = nI (t j) ∧ μ 0 23 j = nI (t j) ∧ t j < 128 := htx
  have hl26 : μ 0 26 1 = nI lN := hl26
  have hlx : ∀ j, j < lN → ν 9 j = μ 0 27 j ∧ CH (ν 9 j) := hlx
  obtain ⟨v2, hpw⟩ : ∃ v2 : Nat → Int32, 1 ≤ cn → g ((kr + 8 - 1) % 8) = true ∧ VG v2 ∧ RP (μ ((kr + 8 - 1) % 8 + 3)) v2 ∧ ∀ k, k < 1357 → ν 5 ((cn - 1) * 1357 + k) = v2 k := by
    by_cases h0 : cn = 0
    · exact ⟨ν 1, fun h => absurd h (by omega)⟩
    · obtain ⟨h1, w, h2, h3, h4⟩ := hHR 0 (by omega)
      have e1 : (kr + 8 - 1) % 8 = (kr + 7 - 0) % 8 := by omega
      rw [← e1] at h1 h3
      exact ⟨w, fun _ => ⟨h1, h2, h3, h4⟩⟩
  refine lv_aload_n hxe hcd dL_law_2608 rfl (lv_at hl 1 rfl) ?_
  refine lv_aload_n hxe hcd dL_law_2609 rfl (lv_at hl 3 rfl) ?_
  refine l_J hZ S hU (As := [.ref (A (0, 14)), .ref aj]) (rest := []) (t_L_undo l hl0 hZ hZX hNC aj f A g μ H.size hkr rfl hk15 hcn hc8 (fun h => ⟨(hpw h).1, (hpw h).2.1, (hpw h).2.2.1⟩)) lk_L_undo hl.1 rfl rfl (Nat.le_of_ble_eq_true rfl) ⟨(Nat.le_of_ble_eq_true rfl), (Nat.le_of_ble_eq_true rfl)⟩ ⟨hc, hs⟩ dL_law_2610 (fun r u H locs hC hU => ?_)
  refine lv_istore (lv' := [(6, .int r), (0, .ref b), (1, .ref (A (0, 14))), (2, .ref (B 0)), (3, .ref aj), (4, .ref ad), (5, .int (nI i))]) hxe hcd dL_law_2613 hl (by decide) rfl (fun ls hl => ?_)
  refine lv_aload_n hxe hcd dL_law_2615 rfl (lv_at hl 3 rfl) ?_
  refine l_Mi hZ S hU (As := []) (rest := []) (t_X10_undo l hZ B ν H.size hch hc8) k_L_313 (l_rm hU) hl.1 rfl rfl (Nat.le_of_ble_eq_true rfl) ⟨(Nat.le_of_ble_eq_true rfl), (Nat.le_of_ble_eq_true rfl)⟩ ⟨hc, hs⟩ dL_law_2616 (fun rb ω H locs hM hU => ?_)
  obtain ⟨hCR2, hA2, hth, hres⟩ := j_undo hCR hkr hc8 hch hHR rfl (fun h => ⟨(hpw h).2.1, (hpw h).2.2.2⟩) (v := ν 1) rfl hC hM
  refine lv_istore (lv' := [(7, .int rb), (6, .int r), (0, .ref b), (1, .ref (A (0, 14))), (2, .ref (B 0)), (3, .ref aj), (4, .ref ad), (5, .int (nI i))]) hxe hcd dL_law_2619 hl (by decide) rfl (fun ls hl => ?_)
  refine lv_aload_n hxe hcd dL_law_2621 rfl (lv_at hl 4 rfl) ?_
  refine l_T hZ S hU (As := []) (rest := []) (t_X10_thrown l hZ B ω H.size) k_L_158 (l_rm hU) hl.1 rfl rfl (Nat.le_of_ble_eq_true rfl) ⟨(Nat.le_of_ble_eq_true rfl), (Nat.le_of_ble_eq_true rfl)⟩ ⟨hc, hs⟩ dL_law_2622 (fun r3 H locs h3 hU => ?_)
  have h3 := h3.symm
  subst h3
  refine r_as hth ?_
  refine lv_iload hxe hcd dL_law_2625 (lv_at hl 1 rfl) ?_
  refine lv_icmp_eq (tgt := 2632) hxe hcd dL_law_2627 (by decide) (fun _ => ?_) (fun h => absurd rfl h)
  refine lv_iload hxe hcd dL_law_2632 (lv_at hl 1 rfl) ?_
  refine lv_if_ne (tgt := 2649) hxe hcd dL_law_2634 (by decide) (fun hk => ?_) (fun hk => ?_)
  · refine lv_goto (tgt := 2709) hxe hcd dL_law_2649 (by decide) ?_
    exact kk u.1 ω u.2 fd H locs ls hU hCR2 hA2 (lv_sub hl [2, 3, 4, 5, 6, 7] rfl)
  · have hres := hres hk
    refine lv_aload_n hxe hcd dL_law_2637 rfl (lv_at hl 5 rfl) ?_
    refine lv_iconst (v := (nI 0)) hxe hcd dL_law_2638 (by decide) ?_
    refine l_jld S hU dL_law_2639 ?_
    refine lv_iload hxe hcd dL_law_2640 (lv_at hl 0 rfl) ?_
    refine lv_i2l (v := rb.toInt64) hxe hcd dL_law_2642 rfl ?_
    refine W.lcmp hxe hcd dL_law_2643 ?_
    refine r_as (y := 0) (by rw [hres]; exact lgc_self _) ?_
    refine lv_if_eq (tgt := 2649) hxe hcd dL_law_2644 (by decide) (fun _ => ?_) (fun h => absurd rfl h)
    refine lv_goto (tgt := 2709) hxe hcd dL_law_2649 (by decide) ?_
    exact kk u.1 ω u.2 fd H locs ls hU hCR2 hA2 (lv_sub hl [2, 3, 4, 5, 6, 7] rfl)
set_option maxHeartbeats 4000000 in
set_option maxRecDepth 100000 in
theorem c_46 (l : Launch) (hl0 : l.stackTraces = false) {Z : ZT} (hZ : zOK Z) (hZX : ZX Z) (hNC : XNC Z) {wd : WDT} (hw : ZW Z wd) {p : Program} {e : Env} {s : State} {m : MethodId} {below : List Frame} {meth : Method} {c : Code} {b : Nat} (S : CallFix p m c cL_law 9 s #[Value.ref b] GT RL) {L : Nat} {xs : Nat → Int32} (hX : va_X b L xs s s.heap) (hbl : b < s.heap.size) (hL31 : L < 2 ^ 31) {A0 : Nat → Prop} (hbA : ¬ A0 b) {aj ad : Nat} {B : Nat → Nat} {Q : State → Prop} {g : Nat → Bool} {A : Nat × Nat → Nat} {μ : CM} {ν : MM} {f : Nat → Int64} {fd : Nat → UInt64} {H : Heap} {locs : List Loc} {ls : Array Slot} {i cells slots : Nat} (hU : wW Z (LW Z aj ad B (g, A, μ) ν f fd) A0 s H locs) (hCR : CR (g, A, μ) ν) (hi : i + 4 < L) (hl : lv_has ls 9 [(0, .ref b), (1, .ref (A (0, 14))), (2, .ref (B 0)), (3, .ref aj), (4, .ref ad), (5, .int (nI i))]) (hc : cells + 15 ≤ 603072) (hs : slots + 1376 ≤ 7190633)
  (kk : ∀ (v' : GM) (ν' : MM) (f' : Nat → Int64) (fd' : Nat → UInt64) (H' : Heap) (locs' : List Loc) (ls' : Array Slot), wW Z (LW Z aj ad B v' ν' f' fd') A0 s H' locs' → CR v' ν' → v'.2.1 (0, 14) = A (0, 14) → lv_has ls' 9 [(0, .ref b), (1, .ref (A (0, 14))), (2, .ref (B 0)), (3, .ref aj), (4, .ref ad), (5, .int (nI i))] → W p l e room_1 s m #[Value.ref b] below meth c H' locs' (cells + 15) (slots + 1376) Q (F0 m 2709 ls' [])) : W p l e room_1 s m #[Value.ref b] below meth c H locs cells slots Q (F0 m 2652 ls []) := by
  have hxe := S.1
  have hcd := S.2.1
  obtain ⟨hVG, hR, ⟨kr, cn, hkr, hc8, hk15, hcn, hch, hHR⟩, ⟨sv, hs4, hsv1, hm9, hsn⟩, ⟨tn, t, ht17, ht22, htn60, htx⟩, ⟨lN, hl20, hl26, hlN80, hlx⟩, ⟨he10, he11, hep2, hep3⟩, ⟨hwd, hwa⟩⟩ := id hCR
  have hR : RP (μ 0) (ν 1) := hR
  have hk15 : μ 0 15 1 = nI kr := hk15
  have hcn : μ 0 15 2 = nI cn := hcn
  have hHR : HR g μ kr cn (ν 5) := hHR
  have hm9 : μ 0 14 9 = nI sv := hm9
  have hsn : sv = 1 → VG (ν 3) ∧ RP (μ 2) (ν 3) := hsn
  have ht22 : μ 0 22 1 = nI tn := ht22
  have htx : ∀ j, j < tn → ν 8 j = nI (t j) ∧ μ 0 23 j = nI (t j) ∧ t j < 128 := htx
  have hl26 : μ 0 26 1 = nI lN := hl26
  have hlx : ∀ j, j < lN → ν 9 j = μ 0 27 j ∧ CH (ν 9 j) := hlx
  refine lv_aload_n hxe hcd dL_law_2652 rfl (lv_at hl 1 rfl) ?_
  refine l_C (mc := 15) (ms := 1376) hZ S hU (As := []) (rest := []) (fun _ _ h => h) (t_X9_save l hl0 hZ hZX A g μ H.size hVG hR) k_L_314 (l_rc hU) hl.1 rfl rfl (Nat.le_of_ble_eq_true rfl) ⟨(Nat.le_of_ble_eq_true rfl), (Nat.le_of_ble_eq_true rfl)⟩ ⟨hc, hs⟩ dL_law_2653 (fun r u H locs hC hU => ?_)
  refine lv_aload_n hxe hcd dL_law_2656 rfl (lv_at hl 2 rfl) ?_
  refine l_Mi hZ S hU (As := []) (rest := [.int r]) (t_X10_save l hZ B ν H.size ) k_L_317 (l_rm hU) hl.1 rfl rfl (Nat.le_of_ble_eq_true rfl) ⟨(Nat.le_of_ble_eq_true rfl), (Nat.le_of_ble_eq_true rfl)⟩ ⟨hc, hs⟩ dL_law_2657 (fun rb ω H locs hM hU => ?_)
  obtain ⟨hCR2, hA2, hrb⟩ := j_save hCR (v := ν 1) rfl hC hM
  subst hrb
  refine lv_icmp_eq (tgt := 2709) hxe hcd dL_law_2660 (by decide) (fun _ => ?_) (fun h => absurd rfl h)
  exact kk u ω f fd H locs ls hU hCR2 hA2 (lv_sub hl [0, 1, 2, 3, 4, 5] rfl)
theorem lk_L_restore : lkW RL 318 yL_restore cL_restore 3 [(0, 8, 11, 15)] 2 := ⟨g_1247, g_1248, g_66, g_1249, ⟨by decide +kernel, by decide +kernel, by decide +kernel⟩⟩
set_option maxHeartbeats 4000000 in
set_option maxRecDepth 100000 in
theorem c_47 (l : Launch) (hl0 : l.stackTraces = false) {Z : ZT} (hZ : zOK Z) (hZX : ZX Z) (hNC : XNC Z) {wd : WDT} (hw : ZW Z wd) {p : Program} {e : Env} {s : State} {m : MethodId} {below : List Frame} {meth : Method} {c : Code} {b : Nat} (S : CallFix p m c cL_law 9 s #[Value.ref b] GT RL) {L : Nat} {xs : Nat → Int32} (hX : va_X b L xs s s.heap) (hbl : b < s.heap.size) (hL31 : L < 2 ^ 31) {A0 : Nat → Prop} (hbA : ¬ A0 b) {aj ad : Nat} {B : Nat → Nat} {Q : State → Prop} {g : Nat → Bool} {A : Nat × Nat → Nat} {μ : CM} {ν : MM} {f : Nat → Int64} {fd : Nat → UInt64} {H : Heap} {locs : List Loc} {ls : Array Slot} {i cells slots : Nat} (hU : wW Z (LW Z aj ad B (g, A, μ) ν f fd) A0 s H locs) (hCR : CR (g, A, μ) ν) (hi : i + 4 < L) (hl : lv_has ls 9 [(0, .ref b), (1, .ref (A (0, 14))), (2, .ref (B 0)), (3, .ref aj), (4, .ref ad), (5, .int (nI i))]) (hc : cells + 15 ≤ 603072) (hs : slots + 1376 ≤ 7190633)
  (kk : ∀ (v' : GM) (ν' : MM) (f' : Nat → Int64) (fd' : Nat → UInt64) (H' : Heap) (locs' : List Loc) (ls' : Array Slot), wW Z (LW Z aj ad B v' ν' f' fd') A0 s H' locs' → CR v' ν' → v'.2.1 (0, 14) = A (0, 14) → lv_has ls' 9 [(0, .ref b), (1, .ref (A (0, 14))), (2, .ref (B 0)), (3, .ref aj), (4, .ref ad), (5, .int (nI i))] → W p l e room_1 s m #[Value.ref b] below meth c H' locs' (cells + 15) (slots + 1376) Q (F0 m 2709 ls' [])) : W p l e room_1 s m #[Value.ref b] below meth c H locs cells slots Q (F0 m 2665 ls []) := by
  have hxe := S.1
  have hcd := S.2.1
  obtain ⟨hVG, hR, ⟨kr, cn, hkr, hc8, hk15, hcn, hch, hHR⟩, ⟨sv, hs4, hsv1, hm9, hsn⟩, ⟨tn, t, ht17, ht22, htn60, htx⟩, ⟨lN, hl20, hl26, hlN80, hlx⟩, ⟨he10, he11, hep2, hep3⟩, ⟨hwd, hwa⟩⟩ := id hCR
  have hR : RP (μ 0) (ν 1) := hR
  have hk15 : μ 0 15 1 = nI kr := hk15
  have hcn : μ 0 15 2 = nI cn := hcn
  have hHR : HR g μ kr cn (ν 5) := hHR
  have hm9 : μ 0 14 9 = nI sv := hm9
  have hsn : sv = 1 → VG (ν 3) ∧ RP (μ 2) (ν 3) := hsn
  have ht22 : μ 0 22 1 = nI tn := ht22
  have htx : ∀ j, j < tn → ν 8 j = nI (t j) ∧ μ 0 23 j = nI (t j) ∧ t j < 128 := htx
  have hl26 : μ 0 26 1 = nI lN := hl26
  have hlx : ∀ j, j < lN → ν 9 j = μ 0 27 j ∧ CH (ν 9 j) := hlx
  refine lv_aload_n hxe hcd dL_law_2665 rfl (lv_at hl 1 rfl) ?_
  refine lv_aload_n hxe hcd dL_law_2666 rfl (lv_at hl 3 rfl) ?_
  refine l_J hZ S hU (As := [.ref (A (0, 14)), .ref aj]) (rest := []) (t_L_restore l hl0 hZ hZX hNC aj f A g μ H.size hm9 hsv1 hsn) lk_L_restore hl.1 rfl rfl (Nat.le_of_ble_eq_true rfl) ⟨(Nat.le_of_ble_eq_true rfl), (Nat.le_of_ble_eq_true rfl)⟩ ⟨hc, hs⟩ dL_law_2667 (fun r u H locs hC hU => ?_)
  refine lv_istore (lv' := [(6, .int r), (0, .ref b), (1, .ref (A (0, 14))), (2, .ref (B 0)), (3, .ref aj), (4, .ref ad), (5, .int (nI i))]) hxe hcd dL_law_2670 hl (by decide) rfl (fun ls hl => ?_)
  refine lv_aload_n hxe hcd dL_law_2672 rfl (lv_at hl 3 rfl) ?_
  refine l_Mi hZ S hU (As := []) (rest := []) (t_X10_restore l hZ B ν H.size hs4 hsv1) k_L_320 (l_rm hU) hl.1 rfl rfl (Nat.le_of_ble_eq_true rfl) ⟨(Nat.le_of_ble_eq_true rfl), (Nat.le_of_ble_eq_true rfl)⟩ ⟨hc, hs⟩ dL_law_2673 (fun rb ω H locs hM hU => ?_)
  obtain ⟨hCR2, hA2, hth, hres⟩ := j_restore hCR hkr hc8 hch hHR rfl (fun h => (hsn h).1) hk15 (v := ν 1) rfl hC hM
  refine lv_istore (lv' := [(7, .int rb), (6, .int r), (0, .ref b), (1, .ref (A (0, 14))), (2, .ref (B 0)), (3, .ref aj), (4, .ref ad), (5, .int (nI i))]) hxe hcd dL_law_2676 hl (by decide) rfl (fun ls hl => ?_)
  refine lv_aload_n hxe hcd dL_law_2678 rfl (lv_at hl 4 rfl) ?_
  refine l_T hZ S hU (As := []) (rest := []) (t_X10_thrown l hZ B ω H.size) k_L_158 (l_rm hU) hl.1 rfl rfl (Nat.le_of_ble_eq_true rfl) ⟨(Nat.le_of_ble_eq_true rfl), (Nat.le_of_ble_eq_true rfl)⟩ ⟨hc, hs⟩ dL_law_2679 (fun r3 H locs h3 hU => ?_)
  have h3 := h3.symm
  subst h3
  refine r_as hth ?_
  refine lv_iload hxe hcd dL_law_2682 (lv_at hl 1 rfl) ?_
  refine lv_icmp_eq (tgt := 2689) hxe hcd dL_law_2684 (by decide) (fun _ => ?_) (fun h => absurd rfl h)
  refine lv_iload hxe hcd dL_law_2689 (lv_at hl 1 rfl) ?_
  refine lv_if_ne (tgt := 2706) hxe hcd dL_law_2691 (by decide) (fun hk => ?_) (fun hk => ?_)
  · refine lv_goto (tgt := 2709) hxe hcd dL_law_2706 (by decide) ?_
    exact kk u.1 ω u.2 fd H locs ls hU hCR2 hA2 (lv_sub hl [2, 3, 4, 5, 6, 7] rfl)
  · have hres := hres hk
    refine lv_aload_n hxe hcd dL_law_2694 rfl (lv_at hl 5 rfl) ?_
    refine lv_iconst (v := (nI 0)) hxe hcd dL_law_2695 (by decide) ?_
    refine l_jld S hU dL_law_2696 ?_
    refine lv_iload hxe hcd dL_law_2697 (lv_at hl 0 rfl) ?_
    refine lv_i2l (v := rb.toInt64) hxe hcd dL_law_2699 rfl ?_
    refine W.lcmp hxe hcd dL_law_2700 ?_
    refine r_as (y := 0) (by rw [hres]; exact lgc_self _) ?_
    refine lv_if_eq (tgt := 2706) hxe hcd dL_law_2701 (by decide) (fun _ => ?_) (fun h => absurd rfl h)
    refine lv_goto (tgt := 2709) hxe hcd dL_law_2706 (by decide) ?_
    exact kk u.1 ω u.2 fd H locs ls hU hCR2 hA2 (lv_sub hl [2, 3, 4, 5, 6, 7] rfl)
