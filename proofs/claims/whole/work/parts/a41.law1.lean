theorem lk_L_addFilter : lkW RL 152 yL_addFilter cL_addFilter 5 [(0, 10, 13, 13), (0, 10, 17, 15)] 4 := ⟨g_536, g_537, g_66, g_538, ⟨by decide +kernel, by decide +kernel, by decide +kernel⟩⟩
set_option maxHeartbeats 4000000 in
set_option maxRecDepth 100000 in
theorem c_0 (l : Launch) (hl0 : l.stackTraces = false) {Z : ZT} (hZ : zOK Z) (hZX : ZX Z) (hNC : XNC Z) {wd : WDT} (hw : ZW Z wd) {p : Program} {e : Env} {s : State} {m : MethodId} {below : List Frame} {meth : Method} {c : Code} {b : Nat} (S : CallFix p m c cL_law 9 s #[Value.ref b] GT RL) {L : Nat} {xs : Nat → Int32} (hX : va_X b L xs s s.heap) (hbl : b < s.heap.size) (hL31 : L < 2 ^ 31) {A0 : Nat → Prop} (hbA : ¬ A0 b) {aj ad : Nat} {B : Nat → Nat} {Q : State → Prop} {g : Nat → Bool} {A : Nat × Nat → Nat} {μ : CM} {ν : MM} {f : Nat → Int64} {fd : Nat → UInt64} {H : Heap} {locs : List Loc} {ls : Array Slot} {i cells slots : Nat} (hU : wW Z (LW Z aj ad B (g, A, μ) ν f fd) A0 s H locs) (hCR : CR (g, A, μ) ν) (hi : i + 4 < L) (hl : lv_has ls 9 [(0, .ref b), (1, .ref (A (0, 14))), (2, .ref (B 0)), (3, .ref aj), (4, .ref ad), (5, .int (nI i))]) (hc : cells + 15 ≤ 603072) (hs : slots + 1376 ≤ 7190633)
  (kk : ∀ (v' : GM) (ν' : MM) (f' : Nat → Int64) (fd' : Nat → UInt64) (H' : Heap) (locs' : List Loc) (ls' : Array Slot), wW Z (LW Z aj ad B v' ν' f' fd') A0 s H' locs' → CR v' ν' → v'.2.1 (0, 14) = A (0, 14) → lv_has ls' 9 [(0, .ref b), (1, .ref (A (0, 14))), (2, .ref (B 0)), (3, .ref aj), (4, .ref ad), (5, .int (nI i))] → W p l e room_1 s m #[Value.ref b] below meth c H' locs' (cells + 15) (slots + 1376) Q (F0 m 2709 ls' [])) : W p l e room_1 s m #[Value.ref b] below meth c H locs cells slots Q (F0 m 252 ls []) := by
  have hxe := S.1
  have hcd := S.2.1
  obtain ⟨hVG, hR, ⟨kr, cn, hkr, hc8, hk15, hcn, hch, hHR⟩, ⟨sv, hs4, hsv1, hm9, hsn⟩, ⟨tn, t, ht17, ht22, htn60, htx⟩, ⟨lN, hl20, hl26, hlN80, hlx⟩, ⟨he10, he11, hep2, hep3⟩, ⟨hwd, hwa⟩⟩ := id hCR
  have hR : RP (μ 0) (ν 1) := hR
  have hk15 : μ 0 15 1 = nI kr := hk15
  have hcn : μ 0 15 2 = nI cn := hcn
  have hHR : HR g μ kr cn (ν 5) := hHR
  have hm9 : μ 0 14 9 = nI sv := hm9
  have hsn : sv = 1 → VG (ν 3) ∧ RP (μ 2) (ν 3) := hsn
  have ht22 : μ 0 22 1 = nI tn := ht22
  have htx : ∀ j, j < tn → ν 8 j = nI (t j) ∧ μ 0 23 j = nI (t j) ∧ t j < 128 := htx
  have hl26 : μ 0 26 1 = nI lN := hl26
  have hlx : ∀ j, j < lN → ν 9 j = μ 0 27 j ∧ CH (ν 9 j) := hlx
  refine lv_aload_n hxe hcd dL_law_252 rfl (lv_at hl 1 rfl) ?_
  refine lv_aload_n hxe hcd dL_law_253 rfl (lv_at hl 0 rfl) ?_
  refine lv_iload hxe hcd dL_law_254 (lv_at hl 5 rfl) ?_
  refine lv_iconst (v := (nI 1)) hxe hcd dL_law_256 (by decide) ?_
  refine n_iadd S (a := i) (b := 1) dL_law_257 ?_
  refine l_sc S hU hX hbl hbA (j := (i + 1)) (by omega) hL31 dL_law_258 ?_
  refine lv_i2c (v := (((xs (i + 1))).toUInt32 % 65536).toInt32) hxe hcd dL_law_259 rfl ?_
  refine lv_aload_n hxe hcd dL_law_260 rfl (lv_at hl 0 rfl) ?_
  refine lv_iload hxe hcd dL_law_261 (lv_at hl 5 rfl) ?_
  refine lv_iconst (v := (nI 2)) hxe hcd dL_law_263 (by decide) ?_
  refine n_iadd S (a := i) (b := 2) dL_law_264 ?_
  refine l_sc S hU hX hbl hbA (j := (i + 2)) (by omega) hL31 dL_law_265 ?_
  refine lv_aload_n hxe hcd dL_law_266 rfl (lv_at hl 3 rfl) ?_
  refine l_J hZ S hU (As := [.ref (A (0, 14)), .int ((((xs (i + 1))).toUInt32 % 65536).toInt32), .int (xs (i + 2)), .ref aj]) (rest := []) (t_L_addFilter l hl0 hZ hZX hNC aj f A g μ H.size hVG hR hkr hk15 hcn hc8 ((((xs (i + 1))).toUInt32 % 65536).toInt32) (xs (i + 2))) lk_L_addFilter hl.1 rfl rfl (Nat.le_of_ble_eq_true rfl) ⟨(Nat.le_of_ble_eq_true rfl), (Nat.le_of_ble_eq_true rfl)⟩ ⟨hc, hs⟩ dL_law_267 (fun r u H locs hC hU => ?_)
  refine lv_istore (lv' := [(6, .int r), (0, .ref b), (1, .ref (A (0, 14))), (2, .ref (B 0)), (3, .ref aj), (4, .ref ad), (5, .int (nI i))]) hxe hcd dL_law_270 hl (by decide) rfl (fun ls hl => ?_)
  refine lv_aload_n hxe hcd dL_law_272 rfl (lv_at hl 3 rfl) ?_
  refine lv_aload_n hxe hcd dL_law_273 rfl (lv_at hl 1 rfl) ?_
  refine lv_iload hxe hcd dL_law_274 (lv_at hl 6 rfl) ?_
  refine lv_iconst (v := (nI 1)) hxe hcd dL_law_276 (by decide) ?_
  refine n_iadd S (a := i) (b := 1) dL_law_277 ?_
  refine l_sc S hU hX hbl hbA (j := (i + 1)) (by omega) hL31 dL_law_278 ?_
  refine lv_i2c (v := (((xs (i + 1))).toUInt32 % 65536).toInt32) hxe hcd dL_law_279 rfl ?_
  refine lv_aload_n hxe hcd dL_law_280 rfl (lv_at hl 1 rfl) ?_
  refine lv_iload hxe hcd dL_law_281 (lv_at hl 6 rfl) ?_
  refine lv_iconst (v := (nI 2)) hxe hcd dL_law_283 (by decide) ?_
  refine n_iadd S (a := i) (b := 2) dL_law_284 ?_
  refine l_sc S hU hX hbl hbA (j := (i + 2)) (by omega) hL31 dL_law_285 ?_
  refine l_Mi hZ S hU (As := [.int ((((xs (i + 1))).toUInt32 % 65536).toInt32), .int (xs (i + 2))]) (rest := []) (t_X10_addFilter l hZ B ν H.size hVG.1.1 hVG.1.2 ((((xs (i + 1))).toUInt32 % 65536).toInt32) (xs (i + 2)) hch hc8) k_L_157 (l_rm hU) hl.1 rfl rfl (Nat.le_of_ble_eq_true rfl) ⟨(Nat.le_of_ble_eq_true rfl), (Nat.le_of_ble_eq_true rfl)⟩ ⟨hc, hs⟩ dL_law_286 (fun rb ω H locs hM hU => ?_)
  obtain ⟨hCR2, hA2, hth, hres⟩ := j_addFilter hCR hkr hc8 hch hHR  (v := ν 1) rfl hC hM
  refine lv_istore (lv' := [(7, .int rb), (6, .int r), (0, .ref b), (1, .ref (A (0, 14))), (2, .ref (B 0)), (3, .ref aj), (4, .ref ad), (5, .int (nI i))]) hxe hcd dL_law_289 hl (by decide) rfl (fun ls hl => ?_)
  refine lv_aload_n hxe hcd dL_law_291 rfl (lv_at hl 4 rfl) ?_
  refine l_T hZ S hU (As := []) (rest := []) (t_X10_thrown l hZ B ω H.size) k_L_158 (l_rm hU) hl.1 rfl rfl (Nat.le_of_ble_eq_true rfl) ⟨(Nat.le_of_ble_eq_true rfl), (Nat.le_of_ble_eq_true rfl)⟩ ⟨hc, hs⟩ dL_law_292 (fun r3 H locs h3 hU => ?_)
  have h3 := h3.symm
  subst h3
  refine r_as hth ?_
  refine lv_iload hxe hcd dL_law_295 (lv_at hl 1 rfl) ?_
  refine lv_icmp_eq (tgt := 302) hxe hcd dL_law_297 (by decide) (fun _ => ?_) (fun h => absurd rfl h)
  refine lv_iload hxe hcd dL_law_302 (lv_at hl 1 rfl) ?_
  refine lv_if_ne (tgt := 319) hxe hcd dL_law_304 (by decide) (fun hk => ?_) (fun hk => ?_)
  · refine lv_goto (tgt := 2709) hxe hcd dL_law_319 (by decide) ?_
    exact kk u.1 ω u.2 fd H locs ls hU hCR2 hA2 (lv_sub hl [2, 3, 4, 5, 6, 7] rfl)
  · have hres := hres hk
    refine lv_aload_n hxe hcd dL_law_307 rfl (lv_at hl 5 rfl) ?_
    refine lv_iconst (v := (nI 0)) hxe hcd dL_law_308 (by decide) ?_
    refine l_jld S hU dL_law_309 ?_
    refine lv_iload hxe hcd dL_law_310 (lv_at hl 0 rfl) ?_
    refine lv_i2l (v := rb.toInt64) hxe hcd dL_law_312 rfl ?_
    refine W.lcmp hxe hcd dL_law_313 ?_
    refine r_as (y := 0) (by rw [hres]; exact lgc_self _) ?_
    refine lv_if_eq (tgt := 319) hxe hcd dL_law_314 (by decide) (fun _ => ?_) (fun h => absurd rfl h)
    refine lv_goto (tgt := 2709) hxe hcd dL_law_319 (by decide) ?_
    exact kk u.1 ω u.2 fd H locs ls hU hCR2 hA2 (lv_sub hl [2, 3, 4, 5, 6, 7] rfl)
theorem lk_L_insertFilter : lkW RL 161 yL_insertFilter cL_insertFilter 6 [(0, 12, 15, 21), (0, 12, 19, 13), (0, 12, 23, 15)] 5 := ⟨g_699, g_700, g_66, g_701, ⟨by decide +kernel, by decide +kernel, by decide +kernel⟩⟩
set_option maxHeartbeats 4000000 in
set_option maxRecDepth 100000 in
theorem c_1 (l : Launch) (hl0 : l.stackTraces = false) {Z : ZT} (hZ : zOK Z) (hZX : ZX Z) (hNC : XNC Z) {wd : WDT} (hw : ZW Z wd) {p : Program} {e : Env} {s : State} {m : MethodId} {below : List Frame} {meth : Method} {c : Code} {b : Nat} (S : CallFix p m c cL_law 9 s #[Value.ref b] GT RL) {L : Nat} {xs : Nat → Int32} (hX : va_X b L xs s s.heap) (hbl : b < s.heap.size) (hL31 : L < 2 ^ 31) {A0 : Nat → Prop} (hbA : ¬ A0 b) {aj ad : Nat} {B : Nat → Nat} {Q : State → Prop} {g : Nat → Bool} {A : Nat × Nat → Nat} {μ : CM} {ν : MM} {f : Nat → Int64} {fd : Nat → UInt64} {H : Heap} {locs : List Loc} {ls : Array Slot} {i cells slots : Nat} (hU : wW Z (LW Z aj ad B (g, A, μ) ν f fd) A0 s H locs) (hCR : CR (g, A, μ) ν) (hi : i + 4 < L) (hl : lv_has ls 9 [(0, .ref b), (1, .ref (A (0, 14))), (2, .ref (B 0)), (3, .ref aj), (4, .ref ad), (5, .int (nI i))]) (hc : cells + 15 ≤ 603072) (hs : slots + 1376 ≤ 7190633)
  (kk : ∀ (v' : GM) (ν' : MM) (f' : Nat → Int64) (fd' : Nat → UInt64) (H' : Heap) (locs' : List Loc) (ls' : Array Slot), wW Z (LW Z aj ad B v' ν' f' fd') A0 s H' locs' → CR v' ν' → v'.2.1 (0, 14) = A (0, 14) → lv_has ls' 9 [(0, .ref b), (1, .ref (A (0, 14))), (2, .ref (B 0)), (3, .ref aj), (4, .ref ad), (5, .int (nI i))] → W p l e room_1 s m #[Value.ref b] below meth c H' locs' (cells + 15) (slots + 1376) Q (F0 m 2709 ls' [])) : W p l e room_1 s m #[Value.ref b] below meth c H locs cells slots Q (F0 m 322 ls []) := by
  have hxe := S.1
  have hcd := S.2.1
  obtain ⟨hVG, hR, ⟨kr, cn, hkr, hc8, hk15, hcn, hch, hHR⟩, ⟨sv, hs4, hsv1, hm9, hsn⟩, ⟨tn, t, ht17, ht22, htn60, htx⟩, ⟨lN, hl20, hl26, hlN80, hlx⟩, ⟨he10, he11, hep2, hep3⟩, ⟨hwd, hwa⟩⟩ := id hCR
  have hR : RP (μ 0) (ν 1) := hR
  have hk15 : μ 0 15 1 = nI kr := hk15
  have hcn : μ 0 15 2 = nI cn := hcn
  have hHR : HR g μ kr cn (ν 5) := hHR
  have hm9 : μ 0 14 9 = nI sv := hm9
  have hsn : sv = 1 → VG (ν 3) ∧ RP (μ 2) (ν 3) := hsn
  have ht22 : μ 0 22 1 = nI tn := ht22
  have htx : ∀ j, j < tn → ν 8 j = nI (t j) ∧ μ 0 23 j = nI (t j) ∧ t j < 128 := htx
  have hl26 : μ 0 26 1 = nI lN := hl26
  have hlx : ∀ j, j < lN → ν 9 j = μ 0 27 j ∧ CH (ν 9 j) := hlx
  refine lv_aload_n hxe hcd dL_law_322 rfl (lv_at hl 1 rfl) ?_
  refine lv_aload_n hxe hcd dL_law_323 rfl (lv_at hl 0 rfl) ?_
  refine lv_iload hxe hcd dL_law_324 (lv_at hl 5 rfl) ?_
  refine lv_iconst (v := (nI 1)) hxe hcd dL_law_326 (by decide) ?_
  refine n_iadd S (a := i) (b := 1) dL_law_327 ?_
  refine l_sc S hU hX hbl hbA (j := (i + 1)) (by omega) hL31 dL_law_328 ?_
  refine lv_aload_n hxe hcd dL_law_329 rfl (lv_at hl 0 rfl) ?_
  refine lv_iload hxe hcd dL_law_330 (lv_at hl 5 rfl) ?_
  refine lv_iconst (v := (nI 2)) hxe hcd dL_law_332 (by decide) ?_
  refine n_iadd S (a := i) (b := 2) dL_law_333 ?_
  refine l_sc S hU hX hbl hbA (j := (i + 2)) (by omega) hL31 dL_law_334 ?_
  refine lv_i2c (v := (((xs (i + 2))).toUInt32 % 65536).toInt32) hxe hcd dL_law_335 rfl ?_
  refine lv_aload_n hxe hcd dL_law_336 rfl (lv_at hl 0 rfl) ?_
  refine lv_iload hxe hcd dL_law_337 (lv_at hl 5 rfl) ?_
  refine lv_iconst (v := (nI 3)) hxe hcd dL_law_339 (by decide) ?_
  refine n_iadd S (a := i) (b := 3) dL_law_340 ?_
  refine l_sc S hU hX hbl hbA (j := (i + 3)) (by omega) hL31 dL_law_341 ?_
  refine lv_aload_n hxe hcd dL_law_342 rfl (lv_at hl 3 rfl) ?_
  refine l_J hZ S hU (As := [.ref (A (0, 14)), .int (xs (i + 1)), .int ((((xs (i + 2))).toUInt32 % 65536).toInt32), .int (xs (i + 3)), .ref aj]) (rest := []) (t_L_insertFilter l hl0 hZ hZX hNC aj f A g μ H.size hVG hR hkr hk15 hcn hc8 (xs (i + 1)) ((((xs (i + 2))).toUInt32 % 65536).toInt32) (xs (i + 3))) lk_L_insertFilter hl.1 rfl rfl (Nat.le_of_ble_eq_true rfl) ⟨(Nat.le_of_ble_eq_true rfl), (Nat.le_of_ble_eq_true rfl)⟩ ⟨hc, hs⟩ dL_law_343 (fun r u H locs hC hU => ?_)
  refine lv_istore (lv' := [(6, .int r), (0, .ref b), (1, .ref (A (0, 14))), (2, .ref (B 0)), (3, .ref aj), (4, .ref ad), (5, .int (nI i))]) hxe hcd dL_law_346 hl (by decide) rfl (fun ls hl => ?_)
  refine lv_aload_n hxe hcd dL_law_348 rfl (lv_at hl 3 rfl) ?_
  refine lv_aload_n hxe hcd dL_law_349 rfl (lv_at hl 1 rfl) ?_
  refine lv_iload hxe hcd dL_law_350 (lv_at hl 6 rfl) ?_
  refine lv_iconst (v := (nI 1)) hxe hcd dL_law_352 (by decide) ?_
  refine n_iadd S (a := i) (b := 1) dL_law_353 ?_
  refine l_sc S hU hX hbl hbA (j := (i + 1)) (by omega) hL31 dL_law_354 ?_
  refine lv_aload_n hxe hcd dL_law_355 rfl (lv_at hl 1 rfl) ?_
  refine lv_iload hxe hcd dL_law_356 (lv_at hl 6 rfl) ?_
  refine lv_iconst (v := (nI 2)) hxe hcd dL_law_358 (by decide) ?_
  refine n_iadd S (a := i) (b := 2) dL_law_359 ?_
  refine l_sc S hU hX hbl hbA (j := (i + 2)) (by omega) hL31 dL_law_360 ?_
  refine lv_i2c (v := (((xs (i + 2))).toUInt32 % 65536).toInt32) hxe hcd dL_law_361 rfl ?_
  refine lv_aload_n hxe hcd dL_law_362 rfl (lv_at hl 1 rfl) ?_
  refine lv_iload hxe hcd dL_law_363 (lv_at hl 6 rfl) ?_
  refine lv_iconst (v := (nI 3)) hxe hcd dL_law_365 (by decide) ?_
  refine n_iadd S (a := i) (b := 3) dL_law_366 ?_
  refine l_sc S hU hX hbl hbA (j := (i + 3)) (by omega) hL31 dL_law_367 ?_
  refine l_Mi hZ S hU (As := [.int (xs (i + 1)), .int ((((xs (i + 2))).toUInt32 % 65536).toInt32), .int (xs (i + 3))]) (rest := []) (t_X10_insertFilter l hZ B ν H.size hVG.1.1 hVG.1.2 (xs (i + 1)) ((((xs (i + 2))).toUInt32 % 65536).toInt32) (xs (i + 3)) hch hc8) k_L_164 (l_rm hU) hl.1 rfl rfl (Nat.le_of_ble_eq_true rfl) ⟨(Nat.le_of_ble_eq_true rfl), (Nat.le_of_ble_eq_true rfl)⟩ ⟨hc, hs⟩ dL_law_368 (fun rb ω H locs hM hU => ?_)
  obtain ⟨hCR2, hA2, hth, hres⟩ := j_insertFilter hCR hkr hc8 hch hHR  (v := ν 1) rfl hC hM
  refine lv_istore (lv' := [(7, .int rb), (6, .int r), (0, .ref b), (1, .ref (A (0, 14))), (2, .ref (B 0)), (3, .ref aj), (4, .ref ad), (5, .int (nI i))]) hxe hcd dL_law_371 hl (by decide) rfl (fun ls hl => ?_)
  refine lv_aload_n hxe hcd dL_law_373 rfl (lv_at hl 4 rfl) ?_
  refine l_T hZ S hU (As := []) (rest := []) (t_X10_thrown l hZ B ω H.size) k_L_158 (l_rm hU) hl.1 rfl rfl (Nat.le_of_ble_eq_true rfl) ⟨(Nat.le_of_ble_eq_true rfl), (Nat.le_of_ble_eq_true rfl)⟩ ⟨hc, hs⟩ dL_law_374 (fun r3 H locs h3 hU => ?_)
  have h3 := h3.symm
  subst h3
  refine r_as hth ?_
  refine lv_iload hxe hcd dL_law_377 (lv_at hl 1 rfl) ?_
  refine lv_icmp_eq (tgt := 384) hxe hcd dL_law_379 (by decide) (fun _ => ?_) (fun h => absurd rfl h)
  refine lv_iload hxe hcd dL_law_384 (lv_at hl 1 rfl) ?_
  refine lv_if_ne (tgt := 401) hxe hcd dL_law_386 (by decide) (fun hk => ?_) (fun hk => ?_)
  · refine lv_goto (tgt := 2709) hxe hcd dL_law_401 (by decide) ?_
    exact kk u.1 ω u.2 fd H locs ls hU hCR2 hA2 (lv_sub hl [2, 3, 4, 5, 6, 7] rfl)
  · have hres := hres hk
    refine lv_aload_n hxe hcd dL_law_389 rfl (lv_at hl 5 rfl) ?_
    refine lv_iconst (v := (nI 0)) hxe hcd dL_law_390 (by decide) ?_
    refine l_jld S hU dL_law_391 ?_
    refine lv_iload hxe hcd dL_law_392 (lv_at hl 0 rfl) ?_
    refine lv_i2l (v := rb.toInt64) hxe hcd dL_law_394 rfl ?_
    refine W.lcmp hxe hcd dL_law_395 ?_
    refine r_as (y := 0) (by rw [hres]; exact lgc_self _) ?_
    refine lv_if_eq (tgt := 401) hxe hcd dL_law_396 (by decide) (fun _ => ?_) (fun h => absurd rfl h)
    refine lv_goto (tgt := 2709) hxe hcd dL_law_401 (by decide) ?_
    exact kk u.1 ω u.2 fd H locs ls hU hCR2 hA2 (lv_sub hl [2, 3, 4, 5, 6, 7] rfl)
theorem lk_L_removeFilter : lkW RL 165 yL_removeFilter cL_removeFilter 4 [(0, 9, 12, 21)] 3 := ⟨g_731, g_732, g_66, g_733, ⟨by decide +kernel, by decide +kernel, by decide +kernel⟩⟩
set_option maxHeartbeats 4000000 in
set_option maxRecDepth 100000 in
theorem c_2 (l : Launch) (hl0 : l.stackTraces = false) {Z : ZT} (hZ : zOK Z) (hZX : ZX Z) (hNC : XNC Z) {wd : WDT} (hw : ZW Z wd) {p : Program} {e : Env} {s : State} {m : MethodId} {below : List Frame} {meth : Method} {c : Code} {b : Nat} (S : CallFix p m c cL_law 9 s #[Value.ref b] GT RL) {L : Nat} {xs : Nat → Int32} (hX : va_X b L xs s s.heap) (hbl : b < s.heap.size) (hL31 : L < 2 ^ 31) {A0 : Nat → Prop} (hbA : ¬ A0 b) {aj ad : Nat} {B : Nat → Nat} {Q : State → Prop} {g : Nat → Bool} {A : Nat × Nat → Nat} {μ : CM} {ν : MM} {f : Nat → Int64} {fd : Nat → UInt64} {H : Heap} {locs : List Loc} {ls : Array Slot} {i cells slots : Nat} (hU : wW Z (LW Z aj ad B (g, A, μ) ν f fd) A0 s H locs) (hCR : CR (g, A, μ) ν) (hi : i + 4 < L) (hl : lv_has ls 9 [(0, .ref b), (1, .ref (A (0, 14))), (2, .ref (B 0)), (3, .ref aj), (4, .ref ad), (5, .int (nI i))]) (hc : cells + 15 ≤ 603072) (hs : slots + 1376 ≤ 7190633)
  (kk : ∀ (v' : GM) (ν' : MM) (f' : Nat → Int64) (fd' : Nat → UInt64) (H' : Heap) (locs' : List Loc) (ls' : Array Slot), wW Z (LW Z aj ad B v' ν' f' fd') A0 s H' locs' → CR v' ν' → v'.2.1 (0, 14) = A (0, 14) → lv_has ls' 9 [(0, .ref b), (1, .ref (A (0, 14))), (2, .ref (B 0)), (3, .ref aj), (4, .ref ad), (5, .int (nI i))] → W p l e room_1 s m #[Value.ref b] below meth c H' locs' (cells + 15) (slots + 1376) Q (F0 m 2709 ls' [])) : W p l e room_1 s m #[Value.ref b] below meth c H locs cells slots Q (F0 m 404 ls []) := by
  have hxe := S.1
  have hcd := S.2.1
  obtain ⟨hVG, hR, ⟨kr, cn, hkr, hc8, hk15, hcn, hch, hHR⟩, ⟨sv, hs4, hsv1, hm9, hsn⟩, ⟨tn, t, ht17, ht22, htn60, htx⟩, ⟨lN, hl20, hl26, hlN80, hlx⟩, ⟨he10, he11, hep2, hep3⟩, ⟨hwd, hwa⟩⟩ := id hCR
  have hR : RP (μ 0) (ν 1) := hR
  have hk15 : μ 0 15 1 = nI kr := hk15
  have hcn : μ 0 15 2 = nI cn := hcn
  have hHR : HR g μ kr cn (ν 5) := hHR
  have hm9 : μ 0 14 9 = nI sv := hm9
  have hsn : sv = 1 → VG (ν 3) ∧ RP (μ 2) (ν 3) := hsn
  have ht22 : μ 0 22 1 = nI tn := ht22
  have htx : ∀ j, j < tn → ν 8 j = nI (t j) ∧ μ 0 23 j = nI (t j) ∧ t j < 128 := htx
  have hl26 : μ 0 26 1 = nI lN := hl26
  have hlx : ∀ j, j < lN → ν 9 j = μ 0 27 j ∧ CH (ν 9 j) := hlx
  refine lv_aload_n hxe hcd dL_law_404 rfl (lv_at hl 1 rfl) ?_
  refine lv_aload_n hxe hcd dL_law_405 rfl (lv_at hl 0 rfl) ?_
  refine lv_iload hxe hcd dL_law_406 (lv_at hl 5 rfl) ?_
  refine lv_iconst (v := (nI 1)) hxe hcd dL_law_408 (by decide) ?_
  refine n_iadd S (a := i) (b := 1) dL_law_409 ?_
  refine l_sc S hU hX hbl hbA (j := (i + 1)) (by omega) hL31 dL_law_410 ?_
  refine lv_aload_n hxe hcd dL_law_411 rfl (lv_at hl 3 rfl) ?_
  refine l_J hZ S hU (As := [.ref (A (0, 14)), .int (xs (i + 1)), .ref aj]) (rest := []) (t_L_removeFilter l hl0 hZ hZX hNC aj f A g μ H.size hVG hR hkr hk15 hcn hc8 (xs (i + 1))) lk_L_removeFilter hl.1 rfl rfl (Nat.le_of_ble_eq_true rfl) ⟨(Nat.le_of_ble_eq_true rfl), (Nat.le_of_ble_eq_true rfl)⟩ ⟨hc, hs⟩ dL_law_412 (fun r u H locs hC hU => ?_)
  refine lv_istore (lv' := [(6, .int r), (0, .ref b), (1, .ref (A (0, 14))), (2, .ref (B 0)), (3, .ref aj), (4, .ref ad), (5, .int (nI i))]) hxe hcd dL_law_415 hl (by decide) rfl (fun ls hl => ?_)
  refine lv_aload_n hxe hcd dL_law_417 rfl (lv_at hl 3 rfl) ?_
  refine lv_aload_n hxe hcd dL_law_418 rfl (lv_at hl 1 rfl) ?_
  refine lv_iload hxe hcd dL_law_419 (lv_at hl 6 rfl) ?_
  refine lv_iconst (v := (nI 1)) hxe hcd dL_law_421 (by decide) ?_
  refine n_iadd S (a := i) (b := 1) dL_law_422 ?_
  refine l_sc S hU hX hbl hbA (j := (i + 1)) (by omega) hL31 dL_law_423 ?_
  refine l_Mi hZ S hU (As := [.int (xs (i + 1))]) (rest := []) (t_X10_removeFilter l hZ B ν H.size hVG.1.1 hVG.1.2 (xs (i + 1)) hch hc8) k_L_168 (l_rm hU) hl.1 rfl rfl (Nat.le_of_ble_eq_true rfl) ⟨(Nat.le_of_ble_eq_true rfl), (Nat.le_of_ble_eq_true rfl)⟩ ⟨hc, hs⟩ dL_law_424 (fun rb ω H locs hM hU => ?_)
  obtain ⟨hCR2, hA2, hth, hres⟩ := j_removeFilter hCR hkr hc8 hch hHR  (v := ν 1) rfl hC hM
  refine lv_istore (lv' := [(7, .int rb), (6, .int r), (0, .ref b), (1, .ref (A (0, 14))), (2, .ref (B 0)), (3, .ref aj), (4, .ref ad), (5, .int (nI i))]) hxe hcd dL_law_427 hl (by decide) rfl (fun ls hl => ?_)
  refine lv_aload_n hxe hcd dL_law_429 rfl (lv_at hl 4 rfl) ?_
  refine l_T hZ S hU (As := []) (rest := []) (t_X10_thrown l hZ B ω H.size) k_L_158 (l_rm hU) hl.1 rfl rfl (Nat.le_of_ble_eq_true rfl) ⟨(Nat.le_of_ble_eq_true rfl), (Nat.le_of_ble_eq_true rfl)⟩ ⟨hc, hs⟩ dL_law_430 (fun r3 H locs h3 hU => ?_)
  have h3 := h3.symm
  subst h3
  refine r_as hth ?_
  refine lv_iload hxe hcd dL_law_433 (lv_at hl 1 rfl) ?_
  refine lv_icmp_eq (tgt := 440) hxe hcd dL_law_435 (by decide) (fun _ => ?_) (fun h => absurd rfl h)
  refine lv_iload hxe hcd dL_law_440 (lv_at hl 1 rfl) ?_
  refine lv_if_ne (tgt := 457) hxe hcd dL_law_442 (by decide) (fun hk => ?_) (fun hk => ?_)
  · refine lv_goto (tgt := 2709) hxe hcd dL_law_457 (by decide) ?_
    exact kk u.1 ω u.2 fd H locs ls hU hCR2 hA2 (lv_sub hl [2, 3, 4, 5, 6, 7] rfl)
  · have hres := hres hk
    refine lv_aload_n hxe hcd dL_law_445 rfl (lv_at hl 5 rfl) ?_
    refine lv_iconst (v := (nI 0)) hxe hcd dL_law_446 (by decide) ?_
    refine l_jld S hU dL_law_447 ?_
    refine lv_iload hxe hcd dL_law_448 (lv_at hl 0 rfl) ?_
    refine lv_i2l (v := rb.toInt64) hxe hcd dL_law_450 rfl ?_
    refine W.lcmp hxe hcd dL_law_451 ?_
    refine r_as (y := 0) (by rw [hres]; exact lgc_self _) ?_
    refine lv_if_eq (tgt := 457) hxe hcd dL_law_452 (by decide) (fun _ => ?_) (fun h => absurd rfl h)
    refine lv_goto (tgt := 2709) hxe hcd dL_law_457 (by decide) ?_
    exact kk u.1 ω u.2 fd H locs ls hU hCR2 hA2 (lv_sub hl [2, 3, 4, 5, 6, 7] rfl)
theorem lk_L_swapFilters : lkW RL 169 yL_swapFilters cL_swapFilters 5 [(0, 10, 13, 21)] 4 := ⟨g_746, g_747, g_66, g_748, ⟨by decide +kernel, by decide +kernel, by decide +kernel⟩⟩
set_option maxHeartbeats 4000000 in
set_option maxRecDepth 100000 in
theorem c_3 (l : Launch) (hl0 : l.stackTraces = false) {Z : ZT} (hZ : zOK Z) (hZX : ZX Z) (hNC : XNC Z) {wd : WDT} (hw : ZW Z wd) {p : Program} {e : Env} {s : State} {m : MethodId} {below : List Frame} {meth : Method} {c : Code} {b : Nat} (S : CallFix p m c cL_law 9 s #[Value.ref b] GT RL) {L : Nat} {xs : Nat → Int32} (hX : va_X b L xs s s.heap) (hbl : b < s.heap.size) (hL31 : L < 2 ^ 31) {A0 : Nat → Prop} (hbA : ¬ A0 b) {aj ad : Nat} {B : Nat → Nat} {Q : State → Prop} {g : Nat → Bool} {A : Nat × Nat → Nat} {μ : CM} {ν : MM} {f : Nat → Int64} {fd : Nat → UInt64} {H : Heap} {locs : List Loc} {ls : Array Slot} {i cells slots : Nat} (hU : wW Z (LW Z aj ad B (g, A, μ) ν f fd) A0 s H locs) (hCR : CR (g, A, μ) ν) (hi : i + 4 < L) (hl : lv_has ls 9 [(0, .ref b), (1, .ref (A (0, 14))), (2, .ref (B 0)), (3, .ref aj), (4, .ref ad), (5, .int (nI i))]) (hc : cells + 15 ≤ 603072) (hs : slots + 1376 ≤ 7190633)
  (kk : ∀ (v' : GM) (ν' : MM) (f' : Nat → Int64) (fd' : Nat → UInt64) (H' : Heap) (locs' : List Loc) (ls' : Array Slot), wW Z (LW Z aj ad B v' ν' f' fd') A0 s H' locs' → CR v' ν' → v'.2.1 (0, 14) = A (0, 14) → lv_has ls' 9 [(0, .ref b), (1, .ref (A (0, 14))), (2, .ref (B 0)), (3, .ref aj), (4, .ref ad), (5, .int (nI i))] → W p l e room_1 s m #[Value.ref b] below meth c H' locs' (cells + 15) (slots + 1376) Q (F0 m 2709 ls' [])) : W p l e room_1 s m #[Value.ref b] below meth c H locs cells slots Q (F0 m 460 ls []) := by
  have hxe := S.1
  have hcd := S.2.1
  obtain ⟨hVG, hR, ⟨kr, cn, hkr, hc8, hk15, hcn, hch, hHR⟩, ⟨sv, hs4, hsv1, hm9, hsn⟩, ⟨tn, t, ht17, ht22, htn60, htx⟩, ⟨lN, hl20, hl26, hlN80, hlx⟩, ⟨he10, he11, hep2, hep3⟩, ⟨hwd, hwa⟩⟩ := id hCR
  have hR : RP (μ 0) (ν 1) := hR
  have hk15 : μ 0 15 1 = nI kr := hk15
  have hcn : μ 0 15 2 = nI cn := hcn
  have hHR : HR g μ kr cn (ν 5) := hHR
  have hm9 : μ 0 14 9 = nI sv := hm9
  have hsn : sv = 1 → VG (ν 3) ∧ RP (μ 2) (ν 3) := hsn
  have ht22 : μ 0 22 1 = nI tn := ht22
  have htx : ∀ j, j < tn → ν 8 j = nI (t j) ∧ μ 0 23 j = nI (t j) ∧ t j < 128 := htx
  have hl26 : μ 0 26 1 = nI lN := hl26
  have hlx : ∀ j, j < lN → ν 9 j = μ 0 27 j ∧ CH (ν 9 j) := hlx
  refine lv_aload_n hxe hcd dL_law_460 rfl (lv_at hl 1 rfl) ?_
  refine lv_aload_n hxe hcd dL_law_461 rfl (lv_at hl 0 rfl) ?_
  refine lv_iload hxe hcd dL_law_462 (lv_at hl 5 rfl) ?_
  refine lv_iconst (v := (nI 1)) hxe hcd dL_law_464 (by decide) ?_
  refine n_iadd S (a := i) (b := 1) dL_law_465 ?_
  refine l_sc S hU hX hbl hbA (j := (i + 1)) (by omega) hL31 dL_law_466 ?_
  refine lv_aload_n hxe hcd dL_law_467 rfl (lv_at hl 0 rfl) ?_
  refine lv_iload hxe hcd dL_law_468 (lv_at hl 5 rfl) ?_
  refine lv_iconst (v := (nI 2)) hxe hcd dL_law_470 (by decide) ?_
  refine n_iadd S (a := i) (b := 2) dL_law_471 ?_
  refine l_sc S hU hX hbl hbA (j := (i + 2)) (by omega) hL31 dL_law_472 ?_
  refine lv_aload_n hxe hcd dL_law_473 rfl (lv_at hl 3 rfl) ?_
  refine l_J hZ S hU (As := [.ref (A (0, 14)), .int (xs (i + 1)), .int (xs (i + 2)), .ref aj]) (rest := []) (t_L_swapFilters l hl0 hZ hZX hNC aj f A g μ H.size hVG hR hkr hk15 hcn hc8 (xs (i + 1)) (xs (i + 2))) lk_L_swapFilters hl.1 rfl rfl (Nat.le_of_ble_eq_true rfl) ⟨(Nat.le_of_ble_eq_true rfl), (Nat.le_of_ble_eq_true rfl)⟩ ⟨hc, hs⟩ dL_law_474 (fun r u H locs hC hU => ?_)
  refine lv_istore (lv' := [(6, .int r), (0, .ref b), (1, .ref (A (0, 14))), (2, .ref (B 0)), (3, .ref aj), (4, .ref ad), (5, .int (nI i))]) hxe hcd dL_law_477 hl (by decide) rfl (fun ls hl => ?_)
  refine lv_aload_n hxe hcd dL_law_479 rfl (lv_at hl 3 rfl) ?_
  refine lv_aload_n hxe hcd dL_law_480 rfl (lv_at hl 1 rfl) ?_
  refine lv_iload hxe hcd dL_law_481 (lv_at hl 6 rfl) ?_
  refine lv_iconst (v := (nI 1)) hxe hcd dL_law_483 (by decide) ?_
  refine n_iadd S (a := i) (b := 1) dL_law_484 ?_
  refine l_sc S hU hX hbl hbA (j := (i + 1)) (by omega) hL31 dL_law_485 ?_
  refine lv_aload_n hxe hcd dL_law_486 rfl (lv_at hl 1 rfl) ?_
  refine lv_iload hxe hcd dL_law_487 (lv_at hl 6 rfl) ?_
  refine lv_iconst (v := (nI 2)) hxe hcd dL_law_489 (by decide) ?_
  refine n_iadd S (a := i) (b := 2) dL_law_490 ?_
  refine l_sc S hU hX hbl hbA (j := (i + 2)) (by omega) hL31 dL_law_491 ?_
  refine l_Mi hZ S hU (As := [.int (xs (i + 1)), .int (xs (i + 2))]) (rest := []) (t_X10_swapFilters l hZ B ν H.size hVG.1.1 hVG.1.2 (xs (i + 1)) (xs (i + 2)) hch hc8) k_L_172 (l_rm hU) hl.1 rfl rfl (Nat.le_of_ble_eq_true rfl) ⟨(Nat.le_of_ble_eq_true rfl), (Nat.le_of_ble_eq_true rfl)⟩ ⟨hc, hs⟩ dL_law_492 (fun rb ω H locs hM hU => ?_)
  obtain ⟨hCR2, hA2, hth, hres⟩ := j_swapFilters hCR hkr hc8 hch hHR  (v := ν 1) rfl hC hM
  refine lv_istore (lv' := [(7, .int rb), (6, .int r), (0, .ref b), (1, .ref (A (0, 14))), (2, .ref (B 0)), (3, .ref aj), (4, .ref ad), (5, .int (nI i))]) hxe hcd dL_law_495 hl (by decide) rfl (fun ls hl => ?_)
  refine lv_aload_n hxe hcd dL_law_497 rfl (lv_at hl 4 rfl) ?_
  refine l_T hZ S hU (As := []) (rest := []) (t_X10_thrown l hZ B ω H.size) k_L_158 (l_rm hU) hl.1 rfl rfl (Nat.le_of_ble_eq_true rfl) ⟨(Nat.le_of_ble_eq_true rfl), (Nat.le_of_ble_eq_true rfl)⟩ ⟨hc, hs⟩ dL_law_498 (fun r3 H locs h3 hU => ?_)
  have h3 := h3.symm
  subst h3
  refine r_as hth ?_
  refine lv_iload hxe hcd dL_law_501 (lv_at hl 1 rfl) ?_
  refine lv_icmp_eq (tgt := 508) hxe hcd dL_law_503 (by decide) (fun _ => ?_) (fun h => absurd rfl h)
  refine lv_iload hxe hcd dL_law_508 (lv_at hl 1 rfl) ?_
  refine lv_if_ne (tgt := 525) hxe hcd dL_law_510 (by decide) (fun hk => ?_) (fun hk => ?_)
  · refine lv_goto (tgt := 2709) hxe hcd dL_law_525 (by decide) ?_
    exact kk u.1 ω u.2 fd H locs ls hU hCR2 hA2 (lv_sub hl [2, 3, 4, 5, 6, 7] rfl)
  · have hres := hres hk
    refine lv_aload_n hxe hcd dL_law_513 rfl (lv_at hl 5 rfl) ?_
    refine lv_iconst (v := (nI 0)) hxe hcd dL_law_514 (by decide) ?_
    refine l_jld S hU dL_law_515 ?_
    refine lv_iload hxe hcd dL_law_516 (lv_at hl 0 rfl) ?_
    refine lv_i2l (v := rb.toInt64) hxe hcd dL_law_518 rfl ?_
    refine W.lcmp hxe hcd dL_law_519 ?_
    refine r_as (y := 0) (by rw [hres]; exact lgc_self _) ?_
    refine lv_if_eq (tgt := 525) hxe hcd dL_law_520 (by decide) (fun _ => ?_) (fun h => absurd rfl h)
    refine lv_goto (tgt := 2709) hxe hcd dL_law_525 (by decide) ?_
    exact kk u.1 ω u.2 fd H locs ls hU hCR2 hA2 (lv_sub hl [2, 3, 4, 5, 6, 7] rfl)
set_option maxHeartbeats 4000000 in
set_option maxRecDepth 100000 in
theorem c_4 (l : Launch) (hl0 : l.stackTraces = false) {Z : ZT} (hZ : zOK Z) (hZX : ZX Z) (hNC : XNC Z) {wd : WDT} (hw : ZW Z wd) {p : Program} {e : Env} {s : State} {m : MethodId} {below : List Frame} {meth : Method} {c : Code} {b : Nat} (S : CallFix p m c cL_law 9 s #[Value.ref b] GT RL) {L : Nat} {xs : Nat → Int32} (hX : va_X b L xs s s.heap) (hbl : b < s.heap.size) (hL31 : L < 2 ^ 31) {A0 : Nat → Prop} (hbA : ¬ A0 b) {aj ad : Nat} {B : Nat → Nat} {Q : State → Prop} {g : Nat → Bool} {A : Nat × Nat → Nat} {μ : CM} {ν : MM} {f : Nat → Int64} {fd : Nat → UInt64} {H : Heap} {locs : List Loc} {ls : Array Slot} {i cells slots : Nat} (hU : wW Z (LW Z aj ad B (g, A, μ) ν f fd) A0 s H locs) (hCR : CR (g, A, μ) ν) (hi : i + 4 < L) (hl : lv_has ls 9 [(0, .ref b), (1, .ref (A (0, 14))), (2, .ref (B 0)), (3, .ref aj), (4, .ref ad), (5, .int (nI i))]) (hc : cells + 15 ≤ 603072) (hs : slots + 1376 ≤ 7190633)
  (kk : ∀ (v' : GM) (ν' : MM) (f' : Nat → Int64) (fd' : Nat → UInt64) (H' : Heap) (locs' : List Loc) (ls' : Array Slot), wW Z (LW Z aj ad B v' ν' f' fd') A0 s H' locs' → CR v' ν' → v'.2.1 (0, 14) = A (0, 14) → lv_has ls' 9 [(0, .ref b), (1, .ref (A (0, 14))), (2, .ref (B 0)), (3, .ref aj), (4, .ref ad), (5, .int (nI i))] → W p l e room_1 s m #[Value.ref b] below meth c H' locs' (cells + 15) (slots + 1376) Q (F0 m 2709 ls' [])) : W p l e room_1 s m #[Value.ref b] below meth c H locs cells slots Q (F0 m 528 ls []) := by
  have hxe := S.1
  have hcd := S.2.1
  obtain ⟨hVG, hR, ⟨kr, cn, hkr, hc8, hk15, hcn, hch, hHR⟩, ⟨sv, hs4, hsv1, hm9, hsn⟩, ⟨tn, t, ht17, ht22, htn60, htx⟩, ⟨lN, hl20, hl26, hlN80, hlx⟩, ⟨he10, he11, hep2, hep3⟩, ⟨hwd, hwa⟩⟩ := id hCR
  have hR : RP (μ 0) (ν 1) := hR
  have hk15 : μ 0 15 1 = nI kr := hk15
  have hcn : μ 0 15 2 = nI cn := hcn
  have hHR : HR g μ kr cn (ν 5) := hHR
  have hm9 : μ 0 14 9 = nI sv := hm9
  have hsn : sv = 1 → VG (ν 3) ∧ RP (μ 2) (ν 3) := hsn
  have ht22 : μ 0 22 1 = nI tn := ht22
  have htx : ∀ j, j < tn → ν 8 j = nI (t j) ∧ μ 0 23 j = nI (t j) ∧ t j < 128 := htx
  have hl26 : μ 0 26 1 = nI lN := hl26
  have hlx : ∀ j, j < lN → ν 9 j = μ 0 27 j ∧ CH (ν 9 j) := hlx
  refine lv_aload_n hxe hcd dL_law_528 rfl (lv_at hl 1 rfl) ?_
  refine l_C (mc := 15) (ms := 1376) hZ S hU (As := []) (rest := []) (fun _ _ h => h) (t_X9_filterCount l hl0 hZ hZX A g μ H.size hVG hR) k_L_173 (l_rc hU) hl.1 rfl rfl (Nat.le_of_ble_eq_true rfl) ⟨(Nat.le_of_ble_eq_true rfl), (Nat.le_of_ble_eq_true rfl)⟩ ⟨hc, hs⟩ dL_law_529 (fun r u H locs hC hU => ?_)
  refine lv_aload_n hxe hcd dL_law_532 rfl (lv_at hl 2 rfl) ?_
  refine l_Mi hZ S hU (As := []) (rest := [.int r]) (t_X10_filterCount l hZ B ν H.size ) k_L_176 (l_rm hU) hl.1 rfl rfl (Nat.le_of_ble_eq_true rfl) ⟨(Nat.le_of_ble_eq_true rfl), (Nat.le_of_ble_eq_true rfl)⟩ ⟨hc, hs⟩ dL_law_533 (fun rb ω H locs hM hU => ?_)
  obtain ⟨hCR2, hA2, hrb⟩ := j_filterCount hCR (v := ν 1) rfl hC hM
  subst hrb
  refine lv_icmp_eq (tgt := 2709) hxe hcd dL_law_536 (by decide) (fun _ => ?_) (fun h => absurd rfl h)
  exact kk u ω f fd H locs ls hU hCR2 hA2 (lv_sub hl [0, 1, 2, 3, 4, 5] rfl)
theorem lk_L_filterKind : lkW RL 177 yL_filterKind cL_filterKind 4 [(0, 9, 12, 21)] 3 := ⟨g_758, g_759, g_66, g_760, ⟨by decide +kernel, by decide +kernel, by decide +kernel⟩⟩
set_option maxHeartbeats 4000000 in
set_option maxRecDepth 100000 in
theorem c_5 (l : Launch) (hl0 : l.stackTraces = false) {Z : ZT} (hZ : zOK Z) (hZX : ZX Z) (hNC : XNC Z) {wd : WDT} (hw : ZW Z wd) {p : Program} {e : Env} {s : State} {m : MethodId} {below : List Frame} {meth : Method} {c : Code} {b : Nat} (S : CallFix p m c cL_law 9 s #[Value.ref b] GT RL) {L : Nat} {xs : Nat → Int32} (hX : va_X b L xs s s.heap) (hbl : b < s.heap.size) (hL31 : L < 2 ^ 31) {A0 : Nat → Prop} (hbA : ¬ A0 b) {aj ad : Nat} {B : Nat → Nat} {Q : State → Prop} {g : Nat → Bool} {A : Nat × Nat → Nat} {μ : CM} {ν : MM} {f : Nat → Int64} {fd : Nat → UInt64} {H : Heap} {locs : List Loc} {ls : Array Slot} {i cells slots : Nat} (hU : wW Z (LW Z aj ad B (g, A, μ) ν f fd) A0 s H locs) (hCR : CR (g, A, μ) ν) (hi : i + 4 < L) (hl : lv_has ls 9 [(0, .ref b), (1, .ref (A (0, 14))), (2, .ref (B 0)), (3, .ref aj), (4, .ref ad), (5, .int (nI i))]) (hc : cells + 15 ≤ 603072) (hs : slots + 1376 ≤ 7190633)
  (kk : ∀ (v' : GM) (ν' : MM) (f' : Nat → Int64) (fd' : Nat → UInt64) (H' : Heap) (locs' : List Loc) (ls' : Array Slot), wW Z (LW Z aj ad B v' ν' f' fd') A0 s H' locs' → CR v' ν' → v'.2.1 (0, 14) = A (0, 14) → lv_has ls' 9 [(0, .ref b), (1, .ref (A (0, 14))), (2, .ref (B 0)), (3, .ref aj), (4, .ref ad), (5, .int (nI i))] → W p l e room_1 s m #[Value.ref b] below meth c H' locs' (cells + 15) (slots + 1376) Q (F0 m 2709 ls' [])) : W p l e room_1 s m #[Value.ref b] below meth c H locs cells slots Q (F0 m 541 ls []) := by
  have hxe := S.1
  have hcd := S.2.1
  obtain ⟨hVG, hR, ⟨kr, cn, hkr, hc8, hk15, hcn, hch, hHR⟩, ⟨sv, hs4, hsv1, hm9, hsn⟩, ⟨tn, t, ht17, ht22, htn60, htx⟩, ⟨lN, hl20, hl26, hlN80, hlx⟩, ⟨he10, he11, hep2, hep3⟩, ⟨hwd, hwa⟩⟩ := id hCR
  have hR : RP (μ 0) (ν 1) := hR
  have hk15 : μ 0 15 1 = nI kr := hk15
  have hcn : μ 0 15 2 = nI cn := hcn
  have hHR : HR g μ kr cn (ν 5) := hHR
  have hm9 : μ 0 14 9 = nI sv := hm9
  have hsn : sv = 1 → VG (ν 3) ∧ RP (μ 2) (ν 3) := hsn
  have ht22 : μ 0 22 1 = nI tn := ht22
  have htx : ∀ j, j < tn → ν 8 j = nI (t j) ∧ μ 0 23 j = nI (t j) ∧ t j < 128 := htx
  have hl26 : μ 0 26 1 = nI lN := hl26
  have hlx : ∀ j, j < lN → ν 9 j = μ 0 27 j ∧ CH (ν 9 j) := hlx
  refine lv_aload_n hxe hcd dL_law_541 rfl (lv_at hl 1 rfl) ?_
  refine lv_aload_n hxe hcd dL_law_542 rfl (lv_at hl 0 rfl) ?_
  refine lv_iload hxe hcd dL_law_543 (lv_at hl 5 rfl) ?_
  refine lv_iconst (v := (nI 1)) hxe hcd dL_law_545 (by decide) ?_
  refine n_iadd S (a := i) (b := 1) dL_law_546 ?_
  refine l_sc S hU hX hbl hbA (j := (i + 1)) (by omega) hL31 dL_law_547 ?_
  refine lv_aload_n hxe hcd dL_law_548 rfl (lv_at hl 3 rfl) ?_
  refine l_J hZ S hU (As := [.ref (A (0, 14)), .int (xs (i + 1)), .ref aj]) (rest := []) (t_L_filterKind l hl0 hZ hZX hNC aj f A g μ H.size hVG hR (xs (i + 1))) lk_L_filterKind hl.1 rfl rfl (Nat.le_of_ble_eq_true rfl) ⟨(Nat.le_of_ble_eq_true rfl), (Nat.le_of_ble_eq_true rfl)⟩ ⟨hc, hs⟩ dL_law_549 (fun r u H locs hC hU => ?_)
  refine lv_istore (lv' := [(6, .int r), (0, .ref b), (1, .ref (A (0, 14))), (2, .ref (B 0)), (3, .ref aj), (4, .ref ad), (5, .int (nI i))]) hxe hcd dL_law_552 hl (by decide) rfl (fun ls hl => ?_)
  refine lv_aload_n hxe hcd dL_law_554 rfl (lv_at hl 3 rfl) ?_
  refine lv_aload_n hxe hcd dL_law_555 rfl (lv_at hl 1 rfl) ?_
  refine lv_iload hxe hcd dL_law_556 (lv_at hl 6 rfl) ?_
  refine lv_iconst (v := (nI 1)) hxe hcd dL_law_558 (by decide) ?_
  refine n_iadd S (a := i) (b := 1) dL_law_559 ?_
  refine l_sc S hU hX hbl hbA (j := (i + 1)) (by omega) hL31 dL_law_560 ?_
  refine l_Mi hZ S hU (As := [.int (xs (i + 1))]) (rest := []) (t_X10_filterKind l hZ B ν H.size hVG.1.1 hVG.1.2 (psV (ν 1)) hVG.2.2.2.2.2.2.1 (xs (i + 1))) k_L_179 (l_rm hU) hl.1 rfl rfl (Nat.le_of_ble_eq_true rfl) ⟨(Nat.le_of_ble_eq_true rfl), (Nat.le_of_ble_eq_true rfl)⟩ ⟨hc, hs⟩ dL_law_561 (fun rb ω H locs hM hU => ?_)
  obtain ⟨hCR2, hA2, hth, hres⟩ := j_filterKind hCR hkr hc8 hch hHR  (v := ν 1) rfl hC hM
  refine lv_istore (lv' := [(7, .int rb), (6, .int r), (0, .ref b), (1, .ref (A (0, 14))), (2, .ref (B 0)), (3, .ref aj), (4, .ref ad), (5, .int (nI i))]) hxe hcd dL_law_564 hl (by decide) rfl (fun ls hl => ?_)
  refine lv_aload_n hxe hcd dL_law_566 rfl (lv_at hl 4 rfl) ?_
  refine l_T hZ S hU (As := []) (rest := []) (t_X10_thrown l hZ B ω H.size) k_L_158 (l_rm hU) hl.1 rfl rfl (Nat.le_of_ble_eq_true rfl) ⟨(Nat.le_of_ble_eq_true rfl), (Nat.le_of_ble_eq_true rfl)⟩ ⟨hc, hs⟩ dL_law_567 (fun r3 H locs h3 hU => ?_)
  have h3 := h3.symm
  subst h3
  refine r_as hth ?_
  refine lv_iload hxe hcd dL_law_570 (lv_at hl 1 rfl) ?_
  refine lv_icmp_eq (tgt := 577) hxe hcd dL_law_572 (by decide) (fun _ => ?_) (fun h => absurd rfl h)
  refine lv_iload hxe hcd dL_law_577 (lv_at hl 1 rfl) ?_
  refine lv_if_ne (tgt := 594) hxe hcd dL_law_579 (by decide) (fun hk => ?_) (fun hk => ?_)
  · refine lv_goto (tgt := 2709) hxe hcd dL_law_594 (by decide) ?_
    exact kk u.1 ω u.2 fd H locs ls hU hCR2 hA2 (lv_sub hl [2, 3, 4, 5, 6, 7] rfl)
  · have hres := hres hk
    refine lv_aload_n hxe hcd dL_law_582 rfl (lv_at hl 5 rfl) ?_
    refine lv_iconst (v := (nI 0)) hxe hcd dL_law_583 (by decide) ?_
    refine l_jld S hU dL_law_584 ?_
    refine lv_iload hxe hcd dL_law_585 (lv_at hl 0 rfl) ?_
    refine lv_i2l (v := rb.toInt64) hxe hcd dL_law_587 rfl ?_
    refine W.lcmp hxe hcd dL_law_588 ?_
    refine r_as (y := 0) (by rw [hres]; exact lgc_self _) ?_
    refine lv_if_eq (tgt := 594) hxe hcd dL_law_589 (by decide) (fun _ => ?_) (fun h => absurd rfl h)
    refine lv_goto (tgt := 2709) hxe hcd dL_law_594 (by decide) ?_
    exact kk u.1 ω u.2 fd H locs ls hU hCR2 hA2 (lv_sub hl [2, 3, 4, 5, 6, 7] rfl)
theorem lk_L_filterParameter : lkW RL 180 yL_filterParameter cL_filterParameter 4 [(0, 9, 12, 21)] 3 := ⟨g_765, g_766, g_66, g_767, ⟨by decide +kernel, by decide +kernel, by decide +kernel⟩⟩
set_option maxHeartbeats 4000000 in
set_option maxRecDepth 100000 in
theorem c_6 (l : Launch) (hl0 : l.stackTraces = false) {Z : ZT} (hZ : zOK Z) (hZX : ZX Z) (hNC : XNC Z) {wd : WDT} (hw : ZW Z wd) {p : Program} {e : Env} {s : State} {m : MethodId} {below : List Frame} {meth : Method} {c : Code} {b : Nat} (S : CallFix p m c cL_law 9 s #[Value.ref b] GT RL) {L : Nat} {xs : Nat → Int32} (hX : va_X b L xs s s.heap) (hbl : b < s.heap.size) (hL31 : L < 2 ^ 31) {A0 : Nat → Prop} (hbA : ¬ A0 b) {aj ad : Nat} {B : Nat → Nat} {Q : State → Prop} {g : Nat → Bool} {A : Nat × Nat → Nat} {μ : CM} {ν : MM} {f : Nat → Int64} {fd : Nat → UInt64} {H : Heap} {locs : List Loc} {ls : Array Slot} {i cells slots : Nat} (hU : wW Z (LW Z aj ad B (g, A, μ) ν f fd) A0 s H locs) (hCR : CR (g, A, μ) ν) (hi : i + 4 < L) (hl : lv_has ls 9 [(0, .ref b), (1, .ref (A (0, 14))), (2, .ref (B 0)), (3, .ref aj), (4, .ref ad), (5, .int (nI i))]) (hc : cells + 15 ≤ 603072) (hs : slots + 1376 ≤ 7190633)
  (kk : ∀ (v' : GM) (ν' : MM) (f' : Nat → Int64) (fd' : Nat → UInt64) (H' : Heap) (locs' : List Loc) (ls' : Array Slot), wW Z (LW Z aj ad B v' ν' f' fd') A0 s H' locs' → CR v' ν' → v'.2.1 (0, 14) = A (0, 14) → lv_has ls' 9 [(0, .ref b), (1, .ref (A (0, 14))), (2, .ref (B 0)), (3, .ref aj), (4, .ref ad), (5, .int (nI i))] → W p l e room_1 s m #[Value.ref b] below meth c H' locs' (cells + 15) (slots + 1376) Q (F0 m 2709 ls' [])) : W p l e room_1 s m #[Value.ref b] below meth c H locs cells slots Q (F0 m 597 ls []) := by
  have hxe := S.1
  have hcd := S.2.1
  obtain ⟨hVG, hR, ⟨kr, cn, hkr, hc8, hk15, hcn, hch, hHR⟩, ⟨sv, hs4, hsv1, hm9, hsn⟩, ⟨tn, t, ht17, ht22, htn60, htx⟩, ⟨lN, hl20, hl26, hlN80, hlx⟩, ⟨he10, he11, hep2, hep3⟩, ⟨hwd, hwa⟩⟩ := id hCR
  have hR : RP (μ 0) (ν 1) := hR
  have hk15 : μ 0 15 1 = nI kr := hk15
  have hcn : μ 0 15 2 = nI cn := hcn
  have hHR : HR g μ kr cn (ν 5) := hHR
  have hm9 : μ 0 14 9 = nI sv := hm9
  have hsn : sv = 1 → VG (ν 3) ∧ RP (μ 2) (ν 3) := hsn
  have ht22 : μ 0 22 1 = nI tn := ht22
  have htx : ∀ j, j < tn → ν 8 j = nI (t j) ∧ μ 0 23 j = nI (t j) ∧ t j < 128 := htx
  have hl26 : μ 0 26 1 = nI lN := hl26
  have hlx : ∀ j, j < lN → ν 9 j = μ 0 27 j ∧ CH (ν 9 j) := hlx
  refine lv_aload_n hxe hcd dL_law_597 rfl (lv_at hl 1 rfl) ?_
  refine lv_aload_n hxe hcd dL_law_598 rfl (lv_at hl 0 rfl) ?_
  refine lv_iload hxe hcd dL_law_599 (lv_at hl 5 rfl) ?_
  refine lv_iconst (v := (nI 1)) hxe hcd dL_law_601 (by decide) ?_
  refine n_iadd S (a := i) (b := 1) dL_law_602 ?_
  refine l_sc S hU hX hbl hbA (j := (i + 1)) (by omega) hL31 dL_law_603 ?_
  refine lv_aload_n hxe hcd dL_law_604 rfl (lv_at hl 3 rfl) ?_
  refine l_J hZ S hU (As := [.ref (A (0, 14)), .int (xs (i + 1)), .ref aj]) (rest := []) (t_L_filterParameter l hl0 hZ hZX hNC aj f A g μ H.size hVG hR (xs (i + 1))) lk_L_filterParameter hl.1 rfl rfl (Nat.le_of_ble_eq_true rfl) ⟨(Nat.le_of_ble_eq_true rfl), (Nat.le_of_ble_eq_true rfl)⟩ ⟨hc, hs⟩ dL_law_605 (fun r u H locs hC hU => ?_)
  refine lv_istore (lv' := [(6, .int r), (0, .ref b), (1, .ref (A (0, 14))), (2, .ref (B 0)), (3, .ref aj), (4, .ref ad), (5, .int (nI i))]) hxe hcd dL_law_608 hl (by decide) rfl (fun ls hl => ?_)
  refine lv_aload_n hxe hcd dL_law_610 rfl (lv_at hl 3 rfl) ?_
  refine lv_aload_n hxe hcd dL_law_611 rfl (lv_at hl 1 rfl) ?_
  refine lv_iload hxe hcd dL_law_612 (lv_at hl 6 rfl) ?_
  refine lv_iconst (v := (nI 1)) hxe hcd dL_law_614 (by decide) ?_
  refine n_iadd S (a := i) (b := 1) dL_law_615 ?_
  refine l_sc S hU hX hbl hbA (j := (i + 1)) (by omega) hL31 dL_law_616 ?_
  refine l_Mi hZ S hU (As := [.int (xs (i + 1))]) (rest := []) (t_X10_filterParameter l hZ B ν H.size hVG.1.1 hVG.1.2 (xs (i + 1))) k_L_182 (l_rm hU) hl.1 rfl rfl (Nat.le_of_ble_eq_true rfl) ⟨(Nat.le_of_ble_eq_true rfl), (Nat.le_of_ble_eq_true rfl)⟩ ⟨hc, hs⟩ dL_law_617 (fun rb ω H locs hM hU => ?_)
  obtain ⟨hCR2, hA2, hth, hres⟩ := j_filterParameter hCR hkr hc8 hch hHR  (v := ν 1) rfl hC hM
  refine lv_istore (lv' := [(7, .int rb), (6, .int r), (0, .ref b), (1, .ref (A (0, 14))), (2, .ref (B 0)), (3, .ref aj), (4, .ref ad), (5, .int (nI i))]) hxe hcd dL_law_620 hl (by decide) rfl (fun ls hl => ?_)
  refine lv_aload_n hxe hcd dL_law_622 rfl (lv_at hl 4 rfl) ?_
  refine l_T hZ S hU (As := []) (rest := []) (t_X10_thrown l hZ B ω H.size) k_L_158 (l_rm hU) hl.1 rfl rfl (Nat.le_of_ble_eq_true rfl) ⟨(Nat.le_of_ble_eq_true rfl), (Nat.le_of_ble_eq_true rfl)⟩ ⟨hc, hs⟩ dL_law_623 (fun r3 H locs h3 hU => ?_)
  have h3 := h3.symm
  subst h3
  refine r_as hth ?_
  refine lv_iload hxe hcd dL_law_626 (lv_at hl 1 rfl) ?_
  refine lv_icmp_eq (tgt := 633) hxe hcd dL_law_628 (by decide) (fun _ => ?_) (fun h => absurd rfl h)
  refine lv_iload hxe hcd dL_law_633 (lv_at hl 1 rfl) ?_
  refine lv_if_ne (tgt := 650) hxe hcd dL_law_635 (by decide) (fun hk => ?_) (fun hk => ?_)
  · refine lv_goto (tgt := 2709) hxe hcd dL_law_650 (by decide) ?_
    exact kk u.1 ω u.2 fd H locs ls hU hCR2 hA2 (lv_sub hl [2, 3, 4, 5, 6, 7] rfl)
  · have hres := hres hk
    refine lv_aload_n hxe hcd dL_law_638 rfl (lv_at hl 5 rfl) ?_
    refine lv_iconst (v := (nI 0)) hxe hcd dL_law_639 (by decide) ?_
    refine l_jld S hU dL_law_640 ?_
    refine lv_iload hxe hcd dL_law_641 (lv_at hl 0 rfl) ?_
    refine lv_i2l (v := rb.toInt64) hxe hcd dL_law_643 rfl ?_
    refine W.lcmp hxe hcd dL_law_644 ?_
    refine r_as (y := 0) (by rw [hres]; exact lgc_self _) ?_
    refine lv_if_eq (tgt := 650) hxe hcd dL_law_645 (by decide) (fun _ => ?_) (fun h => absurd rfl h)
    refine lv_goto (tgt := 2709) hxe hcd dL_law_650 (by decide) ?_
    exact kk u.1 ω u.2 fd H locs ls hU hCR2 hA2 (lv_sub hl [2, 3, 4, 5, 6, 7] rfl)
theorem lk_L_addNote : lkW RL 183 yL_addNote cL_addNote 7 [(0, 14, 17, 21), (0, 14, 21, 13), (0, 14, 25, 15)] 6 := ⟨g_772, g_773, g_66, g_774, ⟨by decide +kernel, by decide +kernel, by decide +kernel⟩⟩
set_option maxHeartbeats 4000000 in
set_option maxRecDepth 100000 in
theorem c_7 (l : Launch) (hl0 : l.stackTraces = false) {Z : ZT} (hZ : zOK Z) (hZX : ZX Z) (hNC : XNC Z) {wd : WDT} (hw : ZW Z wd) {p : Program} {e : Env} {s : State} {m : MethodId} {below : List Frame} {meth : Method} {c : Code} {b : Nat} (S : CallFix p m c cL_law 9 s #[Value.ref b] GT RL) {L : Nat} {xs : Nat → Int32} (hX : va_X b L xs s s.heap) (hbl : b < s.heap.size) (hL31 : L < 2 ^ 31) {A0 : Nat → Prop} (hbA : ¬ A0 b) {aj ad : Nat} {B : Nat → Nat} {Q : State → Prop} {g : Nat → Bool} {A : Nat × Nat → Nat} {μ : CM} {ν : MM} {f : Nat → Int64} {fd : Nat → UInt64} {H : Heap} {locs : List Loc} {ls : Array Slot} {i cells slots : Nat} (hU : wW Z (LW Z aj ad B (g, A, μ) ν f fd) A0 s H locs) (hCR : CR (g, A, μ) ν) (hi : i + 4 < L) (hl : lv_has ls 9 [(0, .ref b), (1, .ref (A (0, 14))), (2, .ref (B 0)), (3, .ref aj), (4, .ref ad), (5, .int (nI i))]) (hc : cells + 15 ≤ 603072) (hs : slots + 1376 ≤ 7190633)
  (kk : ∀ (v' : GM) (ν' : MM) (f' : Nat → Int64) (fd' : Nat → UInt64) (H' : Heap) (locs' : List Loc) (ls' : Array Slot), wW Z (LW Z aj ad B v' ν' f' fd') A0 s H' locs' → CR v' ν' → v'.2.1 (0, 14) = A (0, 14) → lv_has ls' 9 [(0, .ref b), (1, .ref (A (0, 14))), (2, .ref (B 0)), (3, .ref aj), (4, .ref ad), (5, .int (nI i))] → W p l e room_1 s m #[Value.ref b] below meth c H' locs' (cells + 15) (slots + 1376) Q (F0 m 2709 ls' [])) : W p l e room_1 s m #[Value.ref b] below meth c H locs cells slots Q (F0 m 653 ls []) := by
  have hxe := S.1
  have hcd := S.2.1
  obtain ⟨hVG, hR, ⟨kr, cn, hkr, hc8, hk15, hcn, hch, hHR⟩, ⟨sv, hs4, hsv1, hm9, hsn⟩, ⟨tn, t, ht17, ht22, htn60, htx⟩, ⟨lN, hl20, hl26, hlN80, hlx⟩, ⟨he10, he11, hep2, hep3⟩, ⟨hwd, hwa⟩⟩ := id hCR
  have hR : RP (μ 0) (ν 1) := hR
  have hk15 : μ 0 15 1 = nI kr := hk15
  have hcn : μ 0 15 2 = nI cn := hcn
  have hHR : HR g μ kr cn (ν 5) := hHR
  have hm9 : μ 0 14 9 = nI sv := hm9
  have hsn : sv = 1 → VG (ν 3) ∧ RP (μ 2) (ν 3) := hsn
  have ht22 : μ 0 22 1 = nI tn := ht22
  have htx : ∀ j, j < tn → ν 8 j = nI (t j) ∧ μ 0 23 j = nI (t j) ∧ t j < 128 := htx
  have hl26 : μ 0 26 1 = nI lN := hl26
  have hlx : ∀ j, j < lN → ν 9 j = μ 0 27 j ∧ CH (ν 9 j) := hlx
  refine lv_aload_n hxe hcd dL_law_653 rfl (lv_at hl 1 rfl) ?_
  refine lv_aload_n hxe hcd dL_law_654 rfl (lv_at hl 0 rfl) ?_
  refine lv_iload hxe hcd dL_law_655 (lv_at hl 5 rfl) ?_
  refine lv_iconst (v := (nI 1)) hxe hcd dL_law_657 (by decide) ?_
  refine n_iadd S (a := i) (b := 1) dL_law_658 ?_
  refine l_sc S hU hX hbl hbA (j := (i + 1)) (by omega) hL31 dL_law_659 ?_
  refine lv_aload_n hxe hcd dL_law_660 rfl (lv_at hl 0 rfl) ?_
  refine lv_iload hxe hcd dL_law_661 (lv_at hl 5 rfl) ?_
  refine lv_iconst (v := (nI 2)) hxe hcd dL_law_663 (by decide) ?_
  refine n_iadd S (a := i) (b := 2) dL_law_664 ?_
  refine l_sc S hU hX hbl hbA (j := (i + 2)) (by omega) hL31 dL_law_665 ?_
  refine lv_aload_n hxe hcd dL_law_666 rfl (lv_at hl 0 rfl) ?_
  refine lv_iload hxe hcd dL_law_667 (lv_at hl 5 rfl) ?_
  refine lv_iconst (v := (nI 3)) hxe hcd dL_law_669 (by decide) ?_
  refine n_iadd S (a := i) (b := 3) dL_law_670 ?_
  refine l_sc S hU hX hbl hbA (j := (i + 3)) (by omega) hL31 dL_law_671 ?_
  refine lv_aload_n hxe hcd dL_law_672 rfl (lv_at hl 0 rfl) ?_
  refine lv_iload hxe hcd dL_law_673 (lv_at hl 5 rfl) ?_
  refine lv_iconst (v := (nI 4)) hxe hcd dL_law_675 (by decide) ?_
  refine n_iadd S (a := i) (b := 4) dL_law_676 ?_
  refine l_sc S hU hX hbl hbA (j := (i + 4)) (by omega) hL31 dL_law_677 ?_
  refine lv_aload_n hxe hcd dL_law_678 rfl (lv_at hl 3 rfl) ?_
  refine l_J hZ S hU (As := [.ref (A (0, 14)), .int (xs (i + 1)), .int (xs (i + 2)), .int (xs (i + 3)), .int (xs (i + 4)), .ref aj]) (rest := []) (t_L_addNote l hl0 hZ hZX hNC aj f A g μ H.size hVG hR hkr hk15 hcn hc8 (xs (i + 1)) (xs (i + 2)) (xs (i + 3)) (xs (i + 4))) lk_L_addNote hl.1 rfl rfl (Nat.le_of_ble_eq_true rfl) ⟨(Nat.le_of_ble_eq_true rfl), (Nat.le_of_ble_eq_true rfl)⟩ ⟨hc, hs⟩ dL_law_679 (fun r u H locs hC hU => ?_)
  refine lv_istore (lv' := [(6, .int r), (0, .ref b), (1, .ref (A (0, 14))), (2, .ref (B 0)), (3, .ref aj), (4, .ref ad), (5, .int (nI i))]) hxe hcd dL_law_682 hl (by decide) rfl (fun ls hl => ?_)
  refine lv_aload_n hxe hcd dL_law_684 rfl (lv_at hl 3 rfl) ?_
  refine lv_aload_n hxe hcd dL_law_685 rfl (lv_at hl 1 rfl) ?_
  refine lv_iload hxe hcd dL_law_686 (lv_at hl 6 rfl) ?_
  refine lv_iconst (v := (nI 1)) hxe hcd dL_law_688 (by decide) ?_
  refine n_iadd S (a := i) (b := 1) dL_law_689 ?_
  refine l_sc S hU hX hbl hbA (j := (i + 1)) (by omega) hL31 dL_law_690 ?_
  refine lv_aload_n hxe hcd dL_law_691 rfl (lv_at hl 1 rfl) ?_
  refine lv_iload hxe hcd dL_law_692 (lv_at hl 6 rfl) ?_
  refine lv_iconst (v := (nI 2)) hxe hcd dL_law_694 (by decide) ?_
  refine n_iadd S (a := i) (b := 2) dL_law_695 ?_
  refine l_sc S hU hX hbl hbA (j := (i + 2)) (by omega) hL31 dL_law_696 ?_
  refine lv_aload_n hxe hcd dL_law_697 rfl (lv_at hl 1 rfl) ?_
  refine lv_iload hxe hcd dL_law_698 (lv_at hl 6 rfl) ?_
  refine lv_iconst (v := (nI 3)) hxe hcd dL_law_700 (by decide) ?_
  refine n_iadd S (a := i) (b := 3) dL_law_701 ?_
  refine l_sc S hU hX hbl hbA (j := (i + 3)) (by omega) hL31 dL_law_702 ?_
  refine lv_aload_n hxe hcd dL_law_703 rfl (lv_at hl 1 rfl) ?_
  refine lv_iload hxe hcd dL_law_704 (lv_at hl 6 rfl) ?_
  refine lv_iconst (v := (nI 4)) hxe hcd dL_law_706 (by decide) ?_
  refine n_iadd S (a := i) (b := 4) dL_law_707 ?_
  refine l_sc S hU hX hbl hbA (j := (i + 4)) (by omega) hL31 dL_law_708 ?_
  refine l_Mi hZ S hU (As := [.int (xs (i + 1)), .int (xs (i + 2)), .int (xs (i + 3)), .int (xs (i + 4))]) (rest := []) (t_X10_addNote l hZ B ν H.size (lnV (ν 1)) hVG.2.2.1 (nnV (ν 1)) hVG.2.2.2.1 (xs (i + 1)) (xs (i + 2)) (xs (i + 3)) (xs (i + 4)) hch hc8) k_L_186 (l_rm hU) hl.1 rfl rfl (Nat.le_of_ble_eq_true rfl) ⟨(Nat.le_of_ble_eq_true rfl), (Nat.le_of_ble_eq_true rfl)⟩ ⟨hc, hs⟩ dL_law_709 (fun rb ω H locs hM hU => ?_)
  obtain ⟨hCR2, hA2, hth, hres⟩ := j_addNote hCR hkr hc8 hch hHR  (v := ν 1) rfl hC hM
  refine lv_istore (lv' := [(7, .int rb), (6, .int r), (0, .ref b), (1, .ref (A (0, 14))), (2, .ref (B 0)), (3, .ref aj), (4, .ref ad), (5, .int (nI i))]) hxe hcd dL_law_712 hl (by decide) rfl (fun ls hl => ?_)
  refine lv_aload_n hxe hcd dL_law_714 rfl (lv_at hl 4 rfl) ?_
  refine l_T hZ S hU (As := []) (rest := []) (t_X10_thrown l hZ B ω H.size) k_L_158 (l_rm hU) hl.1 rfl rfl (Nat.le_of_ble_eq_true rfl) ⟨(Nat.le_of_ble_eq_true rfl), (Nat.le_of_ble_eq_true rfl)⟩ ⟨hc, hs⟩ dL_law_715 (fun r3 H locs h3 hU => ?_)
  have h3 := h3.symm
  subst h3
  refine r_as hth ?_
  refine lv_iload hxe hcd dL_law_718 (lv_at hl 1 rfl) ?_
  refine lv_icmp_eq (tgt := 725) hxe hcd dL_law_720 (by decide) (fun _ => ?_) (fun h => absurd rfl h)
  refine lv_iload hxe hcd dL_law_725 (lv_at hl 1 rfl) ?_
  refine lv_if_ne (tgt := 742) hxe hcd dL_law_727 (by decide) (fun hk => ?_) (fun hk => ?_)
  · refine lv_goto (tgt := 2709) hxe hcd dL_law_742 (by decide) ?_
    exact kk u.1 ω u.2 fd H locs ls hU hCR2 hA2 (lv_sub hl [2, 3, 4, 5, 6, 7] rfl)
  · have hres := hres hk
    refine lv_aload_n hxe hcd dL_law_730 rfl (lv_at hl 5 rfl) ?_
    refine lv_iconst (v := (nI 0)) hxe hcd dL_law_731 (by decide) ?_
    refine l_jld S hU dL_law_732 ?_
    refine lv_iload hxe hcd dL_law_733 (lv_at hl 0 rfl) ?_
    refine lv_i2l (v := rb.toInt64) hxe hcd dL_law_735 rfl ?_
    refine W.lcmp hxe hcd dL_law_736 ?_
    refine r_as (y := 0) (by rw [hres]; exact lgc_self _) ?_
    refine lv_if_eq (tgt := 742) hxe hcd dL_law_737 (by decide) (fun _ => ?_) (fun h => absurd rfl h)
    refine lv_goto (tgt := 2709) hxe hcd dL_law_742 (by decide) ?_
    exact kk u.1 ω u.2 fd H locs ls hU hCR2 hA2 (lv_sub hl [2, 3, 4, 5, 6, 7] rfl)
theorem lk_L_removeNote : lkW RL 187 yL_removeNote cL_removeNote 4 [(0, 9, 12, 21), (0, 9, 15, 45)] 3 := ⟨g_796, g_797, g_66, g_798, ⟨by decide +kernel, by decide +kernel, by decide +kernel⟩⟩
set_option maxHeartbeats 4000000 in
set_option maxRecDepth 100000 in
theorem c_8 (l : Launch) (hl0 : l.stackTraces = false) {Z : ZT} (hZ : zOK Z) (hZX : ZX Z) (hNC : XNC Z) {wd : WDT} (hw : ZW Z wd) {p : Program} {e : Env} {s : State} {m : MethodId} {below : List Frame} {meth : Method} {c : Code} {b : Nat} (S : CallFix p m c cL_law 9 s #[Value.ref b] GT RL) {L : Nat} {xs : Nat → Int32} (hX : va_X b L xs s s.heap) (hbl : b < s.heap.size) (hL31 : L < 2 ^ 31) {A0 : Nat → Prop} (hbA : ¬ A0 b) {aj ad : Nat} {B : Nat → Nat} {Q : State → Prop} {g : Nat → Bool} {A : Nat × Nat → Nat} {μ : CM} {ν : MM} {f : Nat → Int64} {fd : Nat → UInt64} {H : Heap} {locs : List Loc} {ls : Array Slot} {i cells slots : Nat} (hU : wW Z (LW Z aj ad B (g, A, μ) ν f fd) A0 s H locs) (hCR : CR (g, A, μ) ν) (hi : i + 4 < L) (hl : lv_has ls 9 [(0, .ref b), (1, .ref (A (0, 14))), (2, .ref (B 0)), (3, .ref aj), (4, .ref ad), (5, .int (nI i))]) (hc : cells + 15 ≤ 603072) (hs : slots + 1376 ≤ 7190633)
  (kk : ∀ (v' : GM) (ν' : MM) (f' : Nat → Int64) (fd' : Nat → UInt64) (H' : Heap) (locs' : List Loc) (ls' : Array Slot), wW Z (LW Z aj ad B v' ν' f' fd') A0 s H' locs' → CR v' ν' → v'.2.1 (0, 14) = A (0, 14) → lv_has ls' 9 [(0, .ref b), (1, .ref (A (0, 14))), (2, .ref (B 0)), (3, .ref aj), (4, .ref ad), (5, .int (nI i))] → W p l e room_1 s m #[Value.ref b] below meth c H' locs' (cells + 15) (slots + 1376) Q (F0 m 2709 ls' [])) : W p l e room_1 s m #[Value.ref b] below meth c H locs cells slots Q (F0 m 745 ls []) := by
  have hxe := S.1
  have hcd := S.2.1
  obtain ⟨hVG, hR, ⟨kr, cn, hkr, hc8, hk15, hcn, hch, hHR⟩, ⟨sv, hs4, hsv1, hm9, hsn⟩, ⟨tn, t, ht17, ht22, htn60, htx⟩, ⟨lN, hl20, hl26, hlN80, hlx⟩, ⟨he10, he11, hep2, hep3⟩, ⟨hwd, hwa⟩⟩ := id hCR
  have hR : RP (μ 0) (ν 1) := hR
  have hk15 : μ 0 15 1 = nI kr := hk15
  have hcn : μ 0 15 2 = nI cn := hcn
  have hHR : HR g μ kr cn (ν 5) := hHR
  have hm9 : μ 0 14 9 = nI sv := hm9
  have hsn : sv = 1 → VG (ν 3) ∧ RP (μ 2) (ν 3) := hsn
  have ht22 : μ 0 22 1 = nI tn := ht22
  have htx : ∀ j, j < tn → ν 8 j = nI (t j) ∧ μ 0 23 j = nI (t j) ∧ t j < 128 := htx
  have hl26 : μ 0 26 1 = nI lN := hl26
  have hlx : ∀ j, j < lN → ν 9 j = μ 0 27 j ∧ CH (ν 9 j) := hlx
  refine lv_aload_n hxe hcd dL_law_745 rfl (lv_at hl 1 rfl) ?_
  refine lv_aload_n hxe hcd dL_law_746 rfl (lv_at hl 0 rfl) ?_
  refine lv_iload hxe hcd dL_law_747 (lv_at hl 5 rfl) ?_
  refine lv_iconst (v := (nI 1)) hxe hcd dL_law_749 (by decide) ?_
  refine n_iadd S (a := i) (b := 1) dL_law_750 ?_
  refine l_sc S hU hX hbl hbA (j := (i + 1)) (by omega) hL31 dL_law_751 ?_
  refine lv_aload_n hxe hcd dL_law_752 rfl (lv_at hl 3 rfl) ?_
  refine l_J hZ S hU (As := [.ref (A (0, 14)), .int (xs (i + 1)), .ref aj]) (rest := []) (t_L_removeNote l hl0 hZ hZX hNC aj f A g μ H.size hVG hR hkr hk15 hcn hc8 (xs (i + 1))) lk_L_removeNote hl.1 rfl rfl (Nat.le_of_ble_eq_true rfl) ⟨(Nat.le_of_ble_eq_true rfl), (Nat.le_of_ble_eq_true rfl)⟩ ⟨hc, hs⟩ dL_law_753 (fun r u H locs hC hU => ?_)
  refine lv_istore (lv' := [(6, .int r), (0, .ref b), (1, .ref (A (0, 14))), (2, .ref (B 0)), (3, .ref aj), (4, .ref ad), (5, .int (nI i))]) hxe hcd dL_law_756 hl (by decide) rfl (fun ls hl => ?_)
  refine lv_aload_n hxe hcd dL_law_758 rfl (lv_at hl 3 rfl) ?_
  refine lv_aload_n hxe hcd dL_law_759 rfl (lv_at hl 1 rfl) ?_
  refine lv_iload hxe hcd dL_law_760 (lv_at hl 6 rfl) ?_
  refine lv_iconst (v := (nI 1)) hxe hcd dL_law_762 (by decide) ?_
  refine n_iadd S (a := i) (b := 1) dL_law_763 ?_
  refine l_sc S hU hX hbl hbA (j := (i + 1)) (by omega) hL31 dL_law_764 ?_
  refine l_Mi hZ S hU (As := [.int (xs (i + 1))]) (rest := []) (t_X10_removeNote l hZ B ν H.size (lnV (ν 1)) hVG.2.2.1 (nnV (ν 1)) hVG.2.2.2.1 (nlV (ν 1)) hVG.2.2.2.2.1 (xs (i + 1)) hch hc8) k_L_189 (l_rm hU) hl.1 rfl rfl (Nat.le_of_ble_eq_true rfl) ⟨(Nat.le_of_ble_eq_true rfl), (Nat.le_of_ble_eq_true rfl)⟩ ⟨hc, hs⟩ dL_law_765 (fun rb ω H locs hM hU => ?_)
  obtain ⟨hCR2, hA2, hth, hres⟩ := j_removeNote hCR hkr hc8 hch hHR  (v := ν 1) rfl hC hM
  refine lv_istore (lv' := [(7, .int rb), (6, .int r), (0, .ref b), (1, .ref (A (0, 14))), (2, .ref (B 0)), (3, .ref aj), (4, .ref ad), (5, .int (nI i))]) hxe hcd dL_law_768 hl (by decide) rfl (fun ls hl => ?_)
  refine lv_aload_n hxe hcd dL_law_770 rfl (lv_at hl 4 rfl) ?_
  refine l_T hZ S hU (As := []) (rest := []) (t_X10_thrown l hZ B ω H.size) k_L_158 (l_rm hU) hl.1 rfl rfl (Nat.le_of_ble_eq_true rfl) ⟨(Nat.le_of_ble_eq_true rfl), (Nat.le_of_ble_eq_true rfl)⟩ ⟨hc, hs⟩ dL_law_771 (fun r3 H locs h3 hU => ?_)
  have h3 := h3.symm
  subst h3
  refine r_as hth ?_
  refine lv_iload hxe hcd dL_law_774 (lv_at hl 1 rfl) ?_
  refine lv_icmp_eq (tgt := 781) hxe hcd dL_law_776 (by decide) (fun _ => ?_) (fun h => absurd rfl h)
  refine lv_iload hxe hcd dL_law_781 (lv_at hl 1 rfl) ?_
  refine lv_if_ne (tgt := 798) hxe hcd dL_law_783 (by decide) (fun hk => ?_) (fun hk => ?_)
  · refine lv_goto (tgt := 2709) hxe hcd dL_law_798 (by decide) ?_
    exact kk u.1 ω u.2 fd H locs ls hU hCR2 hA2 (lv_sub hl [2, 3, 4, 5, 6, 7] rfl)
  · have hres := hres hk
    refine lv_aload_n hxe hcd dL_law_786 rfl (lv_at hl 5 rfl) ?_
    refine lv_iconst (v := (nI 0)) hxe hcd dL_law_787 (by decide) ?_
    refine l_jld S hU dL_law_788 ?_
    refine lv_iload hxe hcd dL_law_789 (lv_at hl 0 rfl) ?_
    refine lv_i2l (v := rb.toInt64) hxe hcd dL_law_791 rfl ?_
    refine W.lcmp hxe hcd dL_law_792 ?_
    refine r_as (y := 0) (by rw [hres]; exact lgc_self _) ?_
    refine lv_if_eq (tgt := 798) hxe hcd dL_law_793 (by decide) (fun _ => ?_) (fun h => absurd rfl h)
    refine lv_goto (tgt := 2709) hxe hcd dL_law_798 (by decide) ?_
    exact kk u.1 ω u.2 fd H locs ls hU hCR2 hA2 (lv_sub hl [2, 3, 4, 5, 6, 7] rfl)
theorem lk_L_noteCount : lkW RL 190 yL_noteCount cL_noteCount 4 [(0, 9, 12, 21)] 3 := ⟨g_812, g_813, g_66, g_814, ⟨by decide +kernel, by decide +kernel, by decide +kernel⟩⟩
set_option maxHeartbeats 4000000 in
set_option maxRecDepth 100000 in
theorem c_9 (l : Launch) (hl0 : l.stackTraces = false) {Z : ZT} (hZ : zOK Z) (hZX : ZX Z) (hNC : XNC Z) {wd : WDT} (hw : ZW Z wd) {p : Program} {e : Env} {s : State} {m : MethodId} {below : List Frame} {meth : Method} {c : Code} {b : Nat} (S : CallFix p m c cL_law 9 s #[Value.ref b] GT RL) {L : Nat} {xs : Nat → Int32} (hX : va_X b L xs s s.heap) (hbl : b < s.heap.size) (hL31 : L < 2 ^ 31) {A0 : Nat → Prop} (hbA : ¬ A0 b) {aj ad : Nat} {B : Nat → Nat} {Q : State → Prop} {g : Nat → Bool} {A : Nat × Nat → Nat} {μ : CM} {ν : MM} {f : Nat → Int64} {fd : Nat → UInt64} {H : Heap} {locs : List Loc} {ls : Array Slot} {i cells slots : Nat} (hU : wW Z (LW Z aj ad B (g, A, μ) ν f fd) A0 s H locs) (hCR : CR (g, A, μ) ν) (hi : i + 4 < L) (hl : lv_has ls 9 [(0, .ref b), (1, .ref (A (0, 14))), (2, .ref (B 0)), (3, .ref aj), (4, .ref ad), (5, .int (nI i))]) (hc : cells + 15 ≤ 603072) (hs : slots + 1376 ≤ 7190633)
  (kk : ∀ (v' : GM) (ν' : MM) (f' : Nat → Int64) (fd' : Nat → UInt64) (H' : Heap) (locs' : List Loc) (ls' : Array Slot), wW Z (LW Z aj ad B v' ν' f' fd') A0 s H' locs' → CR v' ν' → v'.2.1 (0, 14) = A (0, 14) → lv_has ls' 9 [(0, .ref b), (1, .ref (A (0, 14))), (2, .ref (B 0)), (3, .ref aj), (4, .ref ad), (5, .int (nI i))] → W p l e room_1 s m #[Value.ref b] below meth c H' locs' (cells + 15) (slots + 1376) Q (F0 m 2709 ls' [])) : W p l e room_1 s m #[Value.ref b] below meth c H locs cells slots Q (F0 m 801 ls []) := by
  have hxe := S.1
  have hcd := S.2.1
  obtain ⟨hVG, hR, ⟨kr, cn, hkr, hc8, hk15, hcn, hch, hHR⟩, ⟨sv, hs4, hsv1, hm9, hsn⟩, ⟨tn, t, ht17, ht22, htn60, htx⟩, ⟨lN, hl20, hl26, hlN80, hlx⟩, ⟨he10, he11, hep2, hep3⟩, ⟨hwd, hwa⟩⟩ := id hCR
  have hR : RP (μ 0) (ν 1) := hR
  have hk15 : μ 0 15 1 = nI kr := hk15
  have hcn : μ 0 15 2 = nI cn := hcn
  have hHR : HR g μ kr cn (ν 5) := hHR
  have hm9 : μ 0 14 9 = nI sv := hm9
  have hsn : sv = 1 → VG (ν 3) ∧ RP (μ 2) (ν 3) := hsn
  have ht22 : μ 0 22 1 = nI tn := ht22
  have htx : ∀ j, j < tn → ν 8 j = nI (t j) ∧ μ 0 23 j = nI (t j) ∧ t j < 128 := htx
  have hl26 : μ 0 26 1 = nI lN := hl26
  have hlx : ∀ j, j < lN → ν 9 j = μ 0 27 j ∧ CH (ν 9 j) := hlx
  refine lv_aload_n hxe hcd dL_law_801 rfl (lv_at hl 1 rfl) ?_
  refine lv_aload_n hxe hcd dL_law_802 rfl (lv_at hl 0 rfl) ?_
  refine lv_iload hxe hcd dL_law_803 (lv_at hl 5 rfl) ?_
  refine lv_iconst (v := (nI 1)) hxe hcd dL_law_805 (by decide) ?_
  refine n_iadd S (a := i) (b := 1) dL_law_806 ?_
  refine l_sc S hU hX hbl hbA (j := (i + 1)) (by omega) hL31 dL_law_807 ?_
  refine lv_aload_n hxe hcd dL_law_808 rfl (lv_at hl 3 rfl) ?_
  refine l_J hZ S hU (As := [.ref (A (0, 14)), .int (xs (i + 1)), .ref aj]) (rest := []) (t_L_noteCount l hl0 hZ hZX hNC aj f A g μ H.size hVG hR (xs (i + 1))) lk_L_noteCount hl.1 rfl rfl (Nat.le_of_ble_eq_true rfl) ⟨(Nat.le_of_ble_eq_true rfl), (Nat.le_of_ble_eq_true rfl)⟩ ⟨hc, hs⟩ dL_law_809 (fun r u H locs hC hU => ?_)
  refine lv_istore (lv' := [(6, .int r), (0, .ref b), (1, .ref (A (0, 14))), (2, .ref (B 0)), (3, .ref aj), (4, .ref ad), (5, .int (nI i))]) hxe hcd dL_law_812 hl (by decide) rfl (fun ls hl => ?_)
  refine lv_aload_n hxe hcd dL_law_814 rfl (lv_at hl 3 rfl) ?_
  refine lv_aload_n hxe hcd dL_law_815 rfl (lv_at hl 1 rfl) ?_
  refine lv_iload hxe hcd dL_law_816 (lv_at hl 6 rfl) ?_
  refine lv_iconst (v := (nI 1)) hxe hcd dL_law_818 (by decide) ?_
  refine n_iadd S (a := i) (b := 1) dL_law_819 ?_
  refine l_sc S hU hX hbl hbA (j := (i + 1)) (by omega) hL31 dL_law_820 ?_
  refine l_Mi hZ S hU (As := [.int (xs (i + 1))]) (rest := []) (t_X10_noteCount l hZ B ν H.size (xs (i + 1))) k_L_192 (l_rm hU) hl.1 rfl rfl (Nat.le_of_ble_eq_true rfl) ⟨(Nat.le_of_ble_eq_true rfl), (Nat.le_of_ble_eq_true rfl)⟩ ⟨hc, hs⟩ dL_law_821 (fun rb ω H locs hM hU => ?_)
  obtain ⟨hCR2, hA2, hth, hres⟩ := j_noteCount hCR hkr hc8 hch hHR  (v := ν 1) rfl hC hM
  refine lv_istore (lv' := [(7, .int rb), (6, .int r), (0, .ref b), (1, .ref (A (0, 14))), (2, .ref (B 0)), (3, .ref aj), (4, .ref ad), (5, .int (nI i))]) hxe hcd dL_law_824 hl (by decide) rfl (fun ls hl => ?_)
  refine lv_aload_n hxe hcd dL_law_826 rfl (lv_at hl 4 rfl) ?_
  refine l_T hZ S hU (As := []) (rest := []) (t_X10_thrown l hZ B ω H.size) k_L_158 (l_rm hU) hl.1 rfl rfl (Nat.le_of_ble_eq_true rfl) ⟨(Nat.le_of_ble_eq_true rfl), (Nat.le_of_ble_eq_true rfl)⟩ ⟨hc, hs⟩ dL_law_827 (fun r3 H locs h3 hU => ?_)
  have h3 := h3.symm
  subst h3
  refine r_as hth ?_
  refine lv_iload hxe hcd dL_law_830 (lv_at hl 1 rfl) ?_
  refine lv_icmp_eq (tgt := 837) hxe hcd dL_law_832 (by decide) (fun _ => ?_) (fun h => absurd rfl h)
  refine lv_iload hxe hcd dL_law_837 (lv_at hl 1 rfl) ?_
  refine lv_if_ne (tgt := 854) hxe hcd dL_law_839 (by decide) (fun hk => ?_) (fun hk => ?_)
  · refine lv_goto (tgt := 2709) hxe hcd dL_law_854 (by decide) ?_
    exact kk u.1 ω u.2 fd H locs ls hU hCR2 hA2 (lv_sub hl [2, 3, 4, 5, 6, 7] rfl)
  · have hres := hres hk
    refine lv_aload_n hxe hcd dL_law_842 rfl (lv_at hl 5 rfl) ?_
    refine lv_iconst (v := (nI 0)) hxe hcd dL_law_843 (by decide) ?_
    refine l_jld S hU dL_law_844 ?_
    refine lv_iload hxe hcd dL_law_845 (lv_at hl 0 rfl) ?_
    refine lv_i2l (v := rb.toInt64) hxe hcd dL_law_847 rfl ?_
    refine W.lcmp hxe hcd dL_law_848 ?_
    refine r_as (y := 0) (by rw [hres]; exact lgc_self _) ?_
    refine lv_if_eq (tgt := 854) hxe hcd dL_law_849 (by decide) (fun _ => ?_) (fun h => absurd rfl h)
    refine lv_goto (tgt := 2709) hxe hcd dL_law_854 (by decide) ?_
    exact kk u.1 ω u.2 fd H locs ls hU hCR2 hA2 (lv_sub hl [2, 3, 4, 5, 6, 7] rfl)
theorem lk_L_songLength : lkW RL 193 yL_songLength cL_songLength 4 [(0, 9, 12, 21)] 3 := ⟨g_821, g_822, g_66, g_823, ⟨by decide +kernel, by decide +kernel, by decide +kernel⟩⟩
set_option maxHeartbeats 4000000 in
set_option maxRecDepth 100000 in
theorem c_10 (l : Launch) (hl0 : l.stackTraces = false) {Z : ZT} (hZ : zOK Z) (hZX : ZX Z) (hNC : XNC Z) {wd : WDT} (hw : ZW Z wd) {p : Program} {e : Env} {s : State} {m : MethodId} {below : List Frame} {meth : Method} {c : Code} {b : Nat} (S : CallFix p m c cL_law 9 s #[Value.ref b] GT RL) {L : Nat} {xs : Nat → Int32} (hX : va_X b L xs s s.heap) (hbl : b < s.heap.size) (hL31 : L < 2 ^ 31) {A0 : Nat → Prop} (hbA : ¬ A0 b) {aj ad : Nat} {B : Nat → Nat} {Q : State → Prop} {g : Nat → Bool} {A : Nat × Nat → Nat} {μ : CM} {ν : MM} {f : Nat → Int64} {fd : Nat → UInt64} {H : Heap} {locs : List Loc} {ls : Array Slot} {i cells slots : Nat} (hU : wW Z (LW Z aj ad B (g, A, μ) ν f fd) A0 s H locs) (hCR : CR (g, A, μ) ν) (hi : i + 4 < L) (hl : lv_has ls 9 [(0, .ref b), (1, .ref (A (0, 14))), (2, .ref (B 0)), (3, .ref aj), (4, .ref ad), (5, .int (nI i))]) (hc : cells + 15 ≤ 603072) (hs : slots + 1376 ≤ 7190633)
  (kk : ∀ (v' : GM) (ν' : MM) (f' : Nat → Int64) (fd' : Nat → UInt64) (H' : Heap) (locs' : List Loc) (ls' : Array Slot), wW Z (LW Z aj ad B v' ν' f' fd') A0 s H' locs' → CR v' ν' → v'.2.1 (0, 14) = A (0, 14) → lv_has ls' 9 [(0, .ref b), (1, .ref (A (0, 14))), (2, .ref (B 0)), (3, .ref aj), (4, .ref ad), (5, .int (nI i))] → W p l e room_1 s m #[Value.ref b] below meth c H' locs' (cells + 15) (slots + 1376) Q (F0 m 2709 ls' [])) : W p l e room_1 s m #[Value.ref b] below meth c H locs cells slots Q (F0 m 857 ls []) := by
  have hxe := S.1
  have hcd := S.2.1
  obtain ⟨hVG, hR, ⟨kr, cn, hkr, hc8, hk15, hcn, hch, hHR⟩, ⟨sv, hs4, hsv1, hm9, hsn⟩, ⟨tn, t, ht17, ht22, htn60, htx⟩, ⟨lN, hl20, hl26, hlN80, hlx⟩, ⟨he10, he11, hep2, hep3⟩, ⟨hwd, hwa⟩⟩ := id hCR
  have hR : RP (μ 0) (ν 1) := hR
  have hk15 : μ 0 15 1 = nI kr := hk15
  have hcn : μ 0 15 2 = nI cn := hcn
  have hHR : HR g μ kr cn (ν 5) := hHR
  have hm9 : μ 0 14 9 = nI sv := hm9
  have hsn : sv = 1 → VG (ν 3) ∧ RP (μ 2) (ν 3) := hsn
  have ht22 : μ 0 22 1 = nI tn := ht22
  have htx : ∀ j, j < tn → ν 8 j = nI (t j) ∧ μ 0 23 j = nI (t j) ∧ t j < 128 := htx
  have hl26 : μ 0 26 1 = nI lN := hl26
  have hlx : ∀ j, j < lN → ν 9 j = μ 0 27 j ∧ CH (ν 9 j) := hlx
  refine lv_aload_n hxe hcd dL_law_857 rfl (lv_at hl 1 rfl) ?_
  refine lv_aload_n hxe hcd dL_law_858 rfl (lv_at hl 0 rfl) ?_
  refine lv_iload hxe hcd dL_law_859 (lv_at hl 5 rfl) ?_
  refine lv_iconst (v := (nI 1)) hxe hcd dL_law_861 (by decide) ?_
  refine n_iadd S (a := i) (b := 1) dL_law_862 ?_
  refine l_sc S hU hX hbl hbA (j := (i + 1)) (by omega) hL31 dL_law_863 ?_
  refine lv_aload_n hxe hcd dL_law_864 rfl (lv_at hl 3 rfl) ?_
  refine l_J hZ S hU (As := [.ref (A (0, 14)), .int (xs (i + 1)), .ref aj]) (rest := []) (t_L_songLength l hl0 hZ hZX hNC aj f A g μ H.size hVG hR (xs (i + 1))) lk_L_songLength hl.1 rfl rfl (Nat.le_of_ble_eq_true rfl) ⟨(Nat.le_of_ble_eq_true rfl), (Nat.le_of_ble_eq_true rfl)⟩ ⟨hc, hs⟩ dL_law_865 (fun r u H locs hC hU => ?_)
  refine lv_istore (lv' := [(6, .int r), (0, .ref b), (1, .ref (A (0, 14))), (2, .ref (B 0)), (3, .ref aj), (4, .ref ad), (5, .int (nI i))]) hxe hcd dL_law_868 hl (by decide) rfl (fun ls hl => ?_)
  refine lv_aload_n hxe hcd dL_law_870 rfl (lv_at hl 3 rfl) ?_
  refine lv_aload_n hxe hcd dL_law_871 rfl (lv_at hl 1 rfl) ?_
  refine lv_iload hxe hcd dL_law_872 (lv_at hl 6 rfl) ?_
  refine lv_iconst (v := (nI 1)) hxe hcd dL_law_874 (by decide) ?_
  refine n_iadd S (a := i) (b := 1) dL_law_875 ?_
  refine l_sc S hU hX hbl hbA (j := (i + 1)) (by omega) hL31 dL_law_876 ?_
  refine l_Mi hZ S hU (As := [.int (xs (i + 1))]) (rest := []) (t_X10_songLength l hZ B ν H.size (xs (i + 1))) k_L_195 (l_rm hU) hl.1 rfl rfl (Nat.le_of_ble_eq_true rfl) ⟨(Nat.le_of_ble_eq_true rfl), (Nat.le_of_ble_eq_true rfl)⟩ ⟨hc, hs⟩ dL_law_877 (fun rb ω H locs hM hU => ?_)
  obtain ⟨hCR2, hA2, hth, hres⟩ := j_songLength hCR hkr hc8 hch hHR  (v := ν 1) rfl hC hM
  refine lv_istore (lv' := [(7, .int rb), (6, .int r), (0, .ref b), (1, .ref (A (0, 14))), (2, .ref (B 0)), (3, .ref aj), (4, .ref ad), (5, .int (nI i))]) hxe hcd dL_law_880 hl (by decide) rfl (fun ls hl => ?_)
  refine lv_aload_n hxe hcd dL_law_882 rfl (lv_at hl 4 rfl) ?_
  refine l_T hZ S hU (As := []) (rest := []) (t_X10_thrown l hZ B ω H.size) k_L_158 (l_rm hU) hl.1 rfl rfl (Nat.le_of_ble_eq_true rfl) ⟨(Nat.le_of_ble_eq_true rfl), (Nat.le_of_ble_eq_true rfl)⟩ ⟨hc, hs⟩ dL_law_883 (fun r3 H locs h3 hU => ?_)
  have h3 := h3.symm
  subst h3
  refine r_as hth ?_
  refine lv_iload hxe hcd dL_law_886 (lv_at hl 1 rfl) ?_
  refine lv_icmp_eq (tgt := 893) hxe hcd dL_law_888 (by decide) (fun _ => ?_) (fun h => absurd rfl h)
  refine lv_iload hxe hcd dL_law_893 (lv_at hl 1 rfl) ?_
  refine lv_if_ne (tgt := 910) hxe hcd dL_law_895 (by decide) (fun hk => ?_) (fun hk => ?_)
  · refine lv_goto (tgt := 2709) hxe hcd dL_law_910 (by decide) ?_
    exact kk u.1 ω u.2 fd H locs ls hU hCR2 hA2 (lv_sub hl [2, 3, 4, 5, 6, 7] rfl)
  · have hres := hres hk
    refine lv_aload_n hxe hcd dL_law_898 rfl (lv_at hl 5 rfl) ?_
    refine lv_iconst (v := (nI 0)) hxe hcd dL_law_899 (by decide) ?_
    refine l_jld S hU dL_law_900 ?_
    refine lv_iload hxe hcd dL_law_901 (lv_at hl 0 rfl) ?_
    refine lv_i2l (v := rb.toInt64) hxe hcd dL_law_903 rfl ?_
    refine W.lcmp hxe hcd dL_law_904 ?_
    refine r_as (y := 0) (by rw [hres]; exact lgc_self _) ?_
    refine lv_if_eq (tgt := 910) hxe hcd dL_law_905 (by decide) (fun _ => ?_) (fun h => absurd rfl h)
    refine lv_goto (tgt := 2709) hxe hcd dL_law_910 (by decide) ?_
    exact kk u.1 ω u.2 fd H locs ls hU hCR2 hA2 (lv_sub hl [2, 3, 4, 5, 6, 7] rfl)
theorem lk_L_rawSample : lkW RL 196 yL_rawSample cL_rawSample 5 [(0, 10, 13, 21), (0, 10, 17, 45)] 4 := ⟨g_828, g_829, g_66, g_830, ⟨by decide +kernel, by decide +kernel, by decide +kernel⟩⟩
set_option maxHeartbeats 4000000 in
set_option maxRecDepth 100000 in
theorem c_11 (l : Launch) (hl0 : l.stackTraces = false) {Z : ZT} (hZ : zOK Z) (hZX : ZX Z) (hNC : XNC Z) {wd : WDT} (hw : ZW Z wd) {p : Program} {e : Env} {s : State} {m : MethodId} {below : List Frame} {meth : Method} {c : Code} {b : Nat} (S : CallFix p m c cL_law 9 s #[Value.ref b] GT RL) {L : Nat} {xs : Nat → Int32} (hX : va_X b L xs s s.heap) (hbl : b < s.heap.size) (hL31 : L < 2 ^ 31) {A0 : Nat → Prop} (hbA : ¬ A0 b) {aj ad : Nat} {B : Nat → Nat} {Q : State → Prop} {g : Nat → Bool} {A : Nat × Nat → Nat} {μ : CM} {ν : MM} {f : Nat → Int64} {fd : Nat → UInt64} {H : Heap} {locs : List Loc} {ls : Array Slot} {i cells slots : Nat} (hU : wW Z (LW Z aj ad B (g, A, μ) ν f fd) A0 s H locs) (hCR : CR (g, A, μ) ν) (hi : i + 4 < L) (hl : lv_has ls 9 [(0, .ref b), (1, .ref (A (0, 14))), (2, .ref (B 0)), (3, .ref aj), (4, .ref ad), (5, .int (nI i))]) (hc : cells + 15 ≤ 603072) (hs : slots + 1376 ≤ 7190633)
  (kk : ∀ (v' : GM) (ν' : MM) (f' : Nat → Int64) (fd' : Nat → UInt64) (H' : Heap) (locs' : List Loc) (ls' : Array Slot), wW Z (LW Z aj ad B v' ν' f' fd') A0 s H' locs' → CR v' ν' → v'.2.1 (0, 14) = A (0, 14) → lv_has ls' 9 [(0, .ref b), (1, .ref (A (0, 14))), (2, .ref (B 0)), (3, .ref aj), (4, .ref ad), (5, .int (nI i))] → W p l e room_1 s m #[Value.ref b] below meth c H' locs' (cells + 15) (slots + 1376) Q (F0 m 2709 ls' [])) : W p l e room_1 s m #[Value.ref b] below meth c H locs cells slots Q (F0 m 913 ls []) := by
  have hxe := S.1
  have hcd := S.2.1
  obtain ⟨hVG, hR, ⟨kr, cn, hkr, hc8, hk15, hcn, hch, hHR⟩, ⟨sv, hs4, hsv1, hm9, hsn⟩, ⟨tn, t, ht17, ht22, htn60, htx⟩, ⟨lN, hl20, hl26, hlN80, hlx⟩, ⟨he10, he11, hep2, hep3⟩, ⟨hwd, hwa⟩⟩ := id hCR
  have hR : RP (μ 0) (ν 1) := hR
  have hk15 : μ 0 15 1 = nI kr := hk15
  have hcn : μ 0 15 2 = nI cn := hcn
  have hHR : HR g μ kr cn (ν 5) := hHR
  have hm9 : μ 0 14 9 = nI sv := hm9
  have hsn : sv = 1 → VG (ν 3) ∧ RP (μ 2) (ν 3) := hsn
  have ht22 : μ 0 22 1 = nI tn := ht22
  have htx : ∀ j, j < tn → ν 8 j = nI (t j) ∧ μ 0 23 j = nI (t j) ∧ t j < 128 := htx
  have hl26 : μ 0 26 1 = nI lN := hl26
  have hlx : ∀ j, j < lN → ν 9 j = μ 0 27 j ∧ CH (ν 9 j) := hlx
  refine lv_aload_n hxe hcd dL_law_913 rfl (lv_at hl 1 rfl) ?_
  refine lv_aload_n hxe hcd dL_law_914 rfl (lv_at hl 0 rfl) ?_
  refine lv_iload hxe hcd dL_law_915 (lv_at hl 5 rfl) ?_
  refine lv_iconst (v := (nI 1)) hxe hcd dL_law_917 (by decide) ?_
  refine n_iadd S (a := i) (b := 1) dL_law_918 ?_
  refine l_sc S hU hX hbl hbA (j := (i + 1)) (by omega) hL31 dL_law_919 ?_
  refine lv_aload_n hxe hcd dL_law_920 rfl (lv_at hl 0 rfl) ?_
  refine lv_iload hxe hcd dL_law_921 (lv_at hl 5 rfl) ?_
  refine lv_iconst (v := (nI 2)) hxe hcd dL_law_923 (by decide) ?_
  refine n_iadd S (a := i) (b := 2) dL_law_924 ?_
  refine l_sc S hU hX hbl hbA (j := (i + 2)) (by omega) hL31 dL_law_925 ?_
  refine lv_aload_n hxe hcd dL_law_926 rfl (lv_at hl 3 rfl) ?_
  refine l_J hZ S hU (As := [.ref (A (0, 14)), .int (xs (i + 1)), .int (xs (i + 2)), .ref aj]) (rest := []) (t_L_rawSample l hl0 hZ hZX hNC aj f A g μ H.size hVG hR (xs (i + 1)) (xs (i + 2))) lk_L_rawSample hl.1 rfl rfl (Nat.le_of_ble_eq_true rfl) ⟨(Nat.le_of_ble_eq_true rfl), (Nat.le_of_ble_eq_true rfl)⟩ ⟨hc, hs⟩ dL_law_927 (fun r u H locs hC hU => ?_)
  refine lv_istore (lv' := [(6, .int r), (0, .ref b), (1, .ref (A (0, 14))), (2, .ref (B 0)), (3, .ref aj), (4, .ref ad), (5, .int (nI i))]) hxe hcd dL_law_930 hl (by decide) rfl (fun ls hl => ?_)
  refine lv_aload_n hxe hcd dL_law_932 rfl (lv_at hl 3 rfl) ?_
  refine lv_aload_n hxe hcd dL_law_933 rfl (lv_at hl 1 rfl) ?_
  refine lv_iload hxe hcd dL_law_934 (lv_at hl 6 rfl) ?_
  refine lv_iconst (v := (nI 1)) hxe hcd dL_law_936 (by decide) ?_
  refine n_iadd S (a := i) (b := 1) dL_law_937 ?_
  refine l_sc S hU hX hbl hbA (j := (i + 1)) (by omega) hL31 dL_law_938 ?_
  refine lv_aload_n hxe hcd dL_law_939 rfl (lv_at hl 1 rfl) ?_
  refine lv_iload hxe hcd dL_law_940 (lv_at hl 6 rfl) ?_
  refine lv_iconst (v := (nI 2)) hxe hcd dL_law_942 (by decide) ?_
  refine n_iadd S (a := i) (b := 2) dL_law_943 ?_
  refine l_sc S hU hX hbl hbA (j := (i + 2)) (by omega) hL31 dL_law_944 ?_
  refine l_Mi hZ S hU (As := [.int (xs (i + 1)), .int (xs (i + 2))]) (rest := []) (t_X10_rawSample l hZ B ν H.size (lnV (ν 1)) hVG.2.2.1 (xs (i + 1)) (xs (i + 2))) k_L_198 (l_rm hU) hl.1 rfl rfl (Nat.le_of_ble_eq_true rfl) ⟨(Nat.le_of_ble_eq_true rfl), (Nat.le_of_ble_eq_true rfl)⟩ ⟨hc, hs⟩ dL_law_945 (fun rb ω H locs hM hU => ?_)
  obtain ⟨hCR2, hA2, hth, hres⟩ := j_rawSample hCR hkr hc8 hch hHR  (v := ν 1) rfl hC hM
  refine lv_istore (lv' := [(7, .int rb), (6, .int r), (0, .ref b), (1, .ref (A (0, 14))), (2, .ref (B 0)), (3, .ref aj), (4, .ref ad), (5, .int (nI i))]) hxe hcd dL_law_948 hl (by decide) rfl (fun ls hl => ?_)
  refine lv_aload_n hxe hcd dL_law_950 rfl (lv_at hl 4 rfl) ?_
  refine l_T hZ S hU (As := []) (rest := []) (t_X10_thrown l hZ B ω H.size) k_L_158 (l_rm hU) hl.1 rfl rfl (Nat.le_of_ble_eq_true rfl) ⟨(Nat.le_of_ble_eq_true rfl), (Nat.le_of_ble_eq_true rfl)⟩ ⟨hc, hs⟩ dL_law_951 (fun r3 H locs h3 hU => ?_)
  have h3 := h3.symm
  subst h3
  refine r_as hth ?_
  refine lv_iload hxe hcd dL_law_954 (lv_at hl 1 rfl) ?_
  refine lv_icmp_eq (tgt := 961) hxe hcd dL_law_956 (by decide) (fun _ => ?_) (fun h => absurd rfl h)
  refine lv_iload hxe hcd dL_law_961 (lv_at hl 1 rfl) ?_
  refine lv_if_ne (tgt := 978) hxe hcd dL_law_963 (by decide) (fun hk => ?_) (fun hk => ?_)
  · refine lv_goto (tgt := 2709) hxe hcd dL_law_978 (by decide) ?_
    exact kk u.1 ω u.2 fd H locs ls hU hCR2 hA2 (lv_sub hl [2, 3, 4, 5, 6, 7] rfl)
  · have hres := hres hk
    refine lv_aload_n hxe hcd dL_law_966 rfl (lv_at hl 5 rfl) ?_
    refine lv_iconst (v := (nI 0)) hxe hcd dL_law_967 (by decide) ?_
    refine l_jld S hU dL_law_968 ?_
    refine lv_iload hxe hcd dL_law_969 (lv_at hl 0 rfl) ?_
    refine lv_i2l (v := rb.toInt64) hxe hcd dL_law_971 rfl ?_
    refine W.lcmp hxe hcd dL_law_972 ?_
    refine r_as (y := 0) (by rw [hres]; exact lgc_self _) ?_
    refine lv_if_eq (tgt := 978) hxe hcd dL_law_973 (by decide) (fun _ => ?_) (fun h => absurd rfl h)
    refine lv_goto (tgt := 2709) hxe hcd dL_law_978 (by decide) ?_
    exact kk u.1 ω u.2 fd H locs ls hU hCR2 hA2 (lv_sub hl [2, 3, 4, 5, 6, 7] rfl)
theorem lk_L_sample : lkW RL 199 yL_sample cL_sample 5 [(0, 10, 13, 21), (0, 10, 17, 45)] 4 := ⟨g_844, g_845, g_66, g_846, ⟨by decide +kernel, by decide +kernel, by decide +kernel⟩⟩
set_option maxHeartbeats 4000000 in
set_option maxRecDepth 100000 in
theorem c_12 (l : Launch) (hl0 : l.stackTraces = false) {Z : ZT} (hZ : zOK Z) (hZX : ZX Z) (hNC : XNC Z) {wd : WDT} (hw : ZW Z wd) {p : Program} {e : Env} {s : State} {m : MethodId} {below : List Frame} {meth : Method} {c : Code} {b : Nat} (S : CallFix p m c cL_law 9 s #[Value.ref b] GT RL) {L : Nat} {xs : Nat → Int32} (hX : va_X b L xs s s.heap) (hbl : b < s.heap.size) (hL31 : L < 2 ^ 31) {A0 : Nat → Prop} (hbA : ¬ A0 b) {aj ad : Nat} {B : Nat → Nat} {Q : State → Prop} {g : Nat → Bool} {A : Nat × Nat → Nat} {μ : CM} {ν : MM} {f : Nat → Int64} {fd : Nat → UInt64} {H : Heap} {locs : List Loc} {ls : Array Slot} {i cells slots : Nat} (hU : wW Z (LW Z aj ad B (g, A, μ) ν f fd) A0 s H locs) (hCR : CR (g, A, μ) ν) (hi : i + 4 < L) (hl : lv_has ls 9 [(0, .ref b), (1, .ref (A (0, 14))), (2, .ref (B 0)), (3, .ref aj), (4, .ref ad), (5, .int (nI i))]) (hc : cells + 15 ≤ 603072) (hs : slots + 1376 ≤ 7190633)
  (kk : ∀ (v' : GM) (ν' : MM) (f' : Nat → Int64) (fd' : Nat → UInt64) (H' : Heap) (locs' : List Loc) (ls' : Array Slot), wW Z (LW Z aj ad B v' ν' f' fd') A0 s H' locs' → CR v' ν' → v'.2.1 (0, 14) = A (0, 14) → lv_has ls' 9 [(0, .ref b), (1, .ref (A (0, 14))), (2, .ref (B 0)), (3, .ref aj), (4, .ref ad), (5, .int (nI i))] → W p l e room_1 s m #[Value.ref b] below meth c H' locs' (cells + 15) (slots + 1376) Q (F0 m 2709 ls' [])) : W p l e room_1 s m #[Value.ref b] below meth c H locs cells slots Q (F0 m 981 ls []) := by
  have hxe := S.1
  have hcd := S.2.1
  obtain ⟨hVG, hR, ⟨kr, cn, hkr, hc8, hk15, hcn, hch, hHR⟩, ⟨sv, hs4, hsv1, hm9, hsn⟩, ⟨tn, t, ht17, ht22, htn60, htx⟩, ⟨lN, hl20, hl26, hlN80, hlx⟩, ⟨he10, he11, hep2, hep3⟩, ⟨hwd, hwa⟩⟩ := id hCR
  have hR : RP (μ 0) (ν 1) := hR
  have hk15 : μ 0 15 1 = nI kr := hk15
  have hcn : μ 0 15 2 = nI cn := hcn
  have hHR : HR g μ kr cn (ν 5) := hHR
  have hm9 : μ 0 14 9 = nI sv := hm9
  have hsn : sv = 1 → VG (ν 3) ∧ RP (μ 2) (ν 3) := hsn
  have ht22 : μ 0 22 1 = nI tn := ht22
  have htx : ∀ j, j < tn → ν 8 j = nI (t j) ∧ μ 0 23 j = nI (t j) ∧ t j < 128 := htx
  have hl26 : μ 0 26 1 = nI lN := hl26
  have hlx : ∀ j, j < lN → ν 9 j = μ 0 27 j ∧ CH (ν 9 j) := hlx
  refine lv_aload_n hxe hcd dL_law_981 rfl (lv_at hl 1 rfl) ?_
  refine lv_aload_n hxe hcd dL_law_982 rfl (lv_at hl 0 rfl) ?_
  refine lv_iload hxe hcd dL_law_983 (lv_at hl 5 rfl) ?_
  refine lv_iconst (v := (nI 1)) hxe hcd dL_law_985 (by decide) ?_
  refine n_iadd S (a := i) (b := 1) dL_law_986 ?_
  refine l_sc S hU hX hbl hbA (j := (i + 1)) (by omega) hL31 dL_law_987 ?_
  refine lv_aload_n hxe hcd dL_law_988 rfl (lv_at hl 0 rfl) ?_
  refine lv_iload hxe hcd dL_law_989 (lv_at hl 5 rfl) ?_
  refine lv_iconst (v := (nI 2)) hxe hcd dL_law_991 (by decide) ?_
  refine n_iadd S (a := i) (b := 2) dL_law_992 ?_
  refine l_sc S hU hX hbl hbA (j := (i + 2)) (by omega) hL31 dL_law_993 ?_
  refine lv_aload_n hxe hcd dL_law_994 rfl (lv_at hl 3 rfl) ?_
  refine l_J hZ S hU (As := [.ref (A (0, 14)), .int (xs (i + 1)), .int (xs (i + 2)), .ref aj]) (rest := []) (t_L_sample l hl0 hZ hZX hNC aj f A g μ H.size hVG hR (xs (i + 1)) (xs (i + 2))) lk_L_sample hl.1 rfl rfl (Nat.le_of_ble_eq_true rfl) ⟨(Nat.le_of_ble_eq_true rfl), (Nat.le_of_ble_eq_true rfl)⟩ ⟨hc, hs⟩ dL_law_995 (fun r u H locs hC hU => ?_)
  refine lv_istore (lv' := [(6, .int r), (0, .ref b), (1, .ref (A (0, 14))), (2, .ref (B 0)), (3, .ref aj), (4, .ref ad), (5, .int (nI i))]) hxe hcd dL_law_998 hl (by decide) rfl (fun ls hl => ?_)
  refine lv_aload_n hxe hcd dL_law_1000 rfl (lv_at hl 3 rfl) ?_
  refine lv_aload_n hxe hcd dL_law_1001 rfl (lv_at hl 1 rfl) ?_
  refine lv_iload hxe hcd dL_law_1002 (lv_at hl 6 rfl) ?_
  refine lv_iconst (v := (nI 1)) hxe hcd dL_law_1004 (by decide) ?_
  refine n_iadd S (a := i) (b := 1) dL_law_1005 ?_
  refine l_sc S hU hX hbl hbA (j := (i + 1)) (by omega) hL31 dL_law_1006 ?_
  refine lv_aload_n hxe hcd dL_law_1007 rfl (lv_at hl 1 rfl) ?_
  refine lv_iload hxe hcd dL_law_1008 (lv_at hl 6 rfl) ?_
  refine lv_iconst (v := (nI 2)) hxe hcd dL_law_1010 (by decide) ?_
  refine n_iadd S (a := i) (b := 2) dL_law_1011 ?_
  refine l_sc S hU hX hbl hbA (j := (i + 2)) (by omega) hL31 dL_law_1012 ?_
  refine l_Mi hZ S hU (As := [.int (xs (i + 1)), .int (xs (i + 2))]) (rest := []) (t_X10_sample l hZ B ν H.size (lnV (ν 1)) hVG.2.2.1 hVG.1.1 hVG.1.2 (psV (ν 1)) hVG.2.2.2.2.2.2.1 (xs (i + 1)) (xs (i + 2))) k_L_201 (l_rm hU) hl.1 rfl rfl (Nat.le_of_ble_eq_true rfl) ⟨(Nat.le_of_ble_eq_true rfl), (Nat.le_of_ble_eq_true rfl)⟩ ⟨hc, hs⟩ dL_law_1013 (fun rb ω H locs hM hU => ?_)
  obtain ⟨hCR2, hA2, hth, hres⟩ := j_sample hCR hkr hc8 hch hHR  (v := ν 1) rfl hC hM
  refine lv_istore (lv' := [(7, .int rb), (6, .int r), (0, .ref b), (1, .ref (A (0, 14))), (2, .ref (B 0)), (3, .ref aj), (4, .ref ad), (5, .int (nI i))]) hxe hcd dL_law_1016 hl (by decide) rfl (fun ls hl => ?_)
  refine lv_aload_n hxe hcd dL_law_1018 rfl (lv_at hl 4 rfl) ?_
  refine l_T hZ S hU (As := []) (rest := []) (t_X10_thrown l hZ B ω H.size) k_L_158 (l_rm hU) hl.1 rfl rfl (Nat.le_of_ble_eq_true rfl) ⟨(Nat.le_of_ble_eq_true rfl), (Nat.le_of_ble_eq_true rfl)⟩ ⟨hc, hs⟩ dL_law_1019 (fun r3 H locs h3 hU => ?_)
  have h3 := h3.symm
  subst h3
  refine r_as hth ?_
  refine lv_iload hxe hcd dL_law_1022 (lv_at hl 1 rfl) ?_
  refine lv_icmp_eq (tgt := 1029) hxe hcd dL_law_1024 (by decide) (fun _ => ?_) (fun h => absurd rfl h)
  refine lv_iload hxe hcd dL_law_1029 (lv_at hl 1 rfl) ?_
  refine lv_if_ne (tgt := 1046) hxe hcd dL_law_1031 (by decide) (fun hk => ?_) (fun hk => ?_)
  · refine lv_goto (tgt := 2709) hxe hcd dL_law_1046 (by decide) ?_
    exact kk u.1 ω u.2 fd H locs ls hU hCR2 hA2 (lv_sub hl [2, 3, 4, 5, 6, 7] rfl)
  · have hres := hres hk
    refine lv_aload_n hxe hcd dL_law_1034 rfl (lv_at hl 5 rfl) ?_
    refine lv_iconst (v := (nI 0)) hxe hcd dL_law_1035 (by decide) ?_
    refine l_jld S hU dL_law_1036 ?_
    refine lv_iload hxe hcd dL_law_1037 (lv_at hl 0 rfl) ?_
    refine lv_i2l (v := rb.toInt64) hxe hcd dL_law_1039 rfl ?_
    refine W.lcmp hxe hcd dL_law_1040 ?_
    refine r_as (y := 0) (by rw [hres]; exact lgc_self _) ?_
    refine lv_if_eq (tgt := 1046) hxe hcd dL_law_1041 (by decide) (fun _ => ?_) (fun h => absurd rfl h)
    refine lv_goto (tgt := 2709) hxe hcd dL_law_1046 (by decide) ?_
    exact kk u.1 ω u.2 fd H locs ls hU hCR2 hA2 (lv_sub hl [2, 3, 4, 5, 6, 7] rfl)
theorem lk_L_sampleByFilter : lkW RL 202 yL_sampleByFilter cL_sampleByFilter 5 [(0, 10, 13, 21), (0, 10, 17, 45)] 4 := ⟨g_856, g_857, g_66, g_858, ⟨by decide +kernel, by decide +kernel, by decide +kernel⟩⟩
set_option maxHeartbeats 4000000 in
set_option maxRecDepth 100000 in
theorem c_13 (l : Launch) (hl0 : l.stackTraces = false) {Z : ZT} (hZ : zOK Z) (hZX : ZX Z) (hNC : XNC Z) {wd : WDT} (hw : ZW Z wd) {p : Program} {e : Env} {s : State} {m : MethodId} {below : List Frame} {meth : Method} {c : Code} {b : Nat} (S : CallFix p m c cL_law 9 s #[Value.ref b] GT RL) {L : Nat} {xs : Nat → Int32} (hX : va_X b L xs s s.heap) (hbl : b < s.heap.size) (hL31 : L < 2 ^ 31) {A0 : Nat → Prop} (hbA : ¬ A0 b) {aj ad : Nat} {B : Nat → Nat} {Q : State → Prop} {g : Nat → Bool} {A : Nat × Nat → Nat} {μ : CM} {ν : MM} {f : Nat → Int64} {fd : Nat → UInt64} {H : Heap} {locs : List Loc} {ls : Array Slot} {i cells slots : Nat} (hU : wW Z (LW Z aj ad B (g, A, μ) ν f fd) A0 s H locs) (hCR : CR (g, A, μ) ν) (hi : i + 4 < L) (hl : lv_has ls 9 [(0, .ref b), (1, .ref (A (0, 14))), (2, .ref (B 0)), (3, .ref aj), (4, .ref ad), (5, .int (nI i))]) (hc : cells + 15 ≤ 603072) (hs : slots + 1376 ≤ 7190633)
  (kk : ∀ (v' : GM) (ν' : MM) (f' : Nat → Int64) (fd' : Nat → UInt64) (H' : Heap) (locs' : List Loc) (ls' : Array Slot), wW Z (LW Z aj ad B v' ν' f' fd') A0 s H' locs' → CR v' ν' → v'.2.1 (0, 14) = A (0, 14) → lv_has ls' 9 [(0, .ref b), (1, .ref (A (0, 14))), (2, .ref (B 0)), (3, .ref aj), (4, .ref ad), (5, .int (nI i))] → W p l e room_1 s m #[Value.ref b] below meth c H' locs' (cells + 15) (slots + 1376) Q (F0 m 2709 ls' [])) : W p l e room_1 s m #[Value.ref b] below meth c H locs cells slots Q (F0 m 1049 ls []) := by
  have hxe := S.1
  have hcd := S.2.1
  obtain ⟨hVG, hR, ⟨kr, cn, hkr, hc8, hk15, hcn, hch, hHR⟩, ⟨sv, hs4, hsv1, hm9, hsn⟩, ⟨tn, t, ht17, ht22, htn60, htx⟩, ⟨lN, hl20, hl26, hlN80, hlx⟩, ⟨he10, he11, hep2, hep3⟩, ⟨hwd, hwa⟩⟩ := id hCR
  have hR : RP (μ 0) (ν 1) := hR
  have hk15 : μ 0 15 1 = nI kr := hk15
  have hcn : μ 0 15 2 = nI cn := hcn
  have hHR : HR g μ kr cn (ν 5) := hHR
  have hm9 : μ 0 14 9 = nI sv := hm9
  have hsn : sv = 1 → VG (ν 3) ∧ RP (μ 2) (ν 3) := hsn
  have ht22 : μ 0 22 1 = nI tn := ht22
  have htx : ∀ j, j < tn → ν 8 j = nI (t j) ∧ μ 0 23 j = nI (t j) ∧ t j < 128 := htx
  have hl26 : μ 0 26 1 = nI lN := hl26
  have hlx : ∀ j, j < lN → ν 9 j = μ 0 27 j ∧ CH (ν 9 j) := hlx
  refine lv_aload_n hxe hcd dL_law_1049 rfl (lv_at hl 1 rfl) ?_
  refine lv_aload_n hxe hcd dL_law_1050 rfl (lv_at hl 0 rfl) ?_
  refine lv_iload hxe hcd dL_law_1051 (lv_at hl 5 rfl) ?_
  refine lv_iconst (v := (nI 1)) hxe hcd dL_law_1053 (by decide) ?_
  refine n_iadd S (a := i) (b := 1) dL_law_1054 ?_
  refine l_sc S hU hX hbl hbA (j := (i + 1)) (by omega) hL31 dL_law_1055 ?_
  refine lv_aload_n hxe hcd dL_law_1056 rfl (lv_at hl 0 rfl) ?_
  refine lv_iload hxe hcd dL_law_1057 (lv_at hl 5 rfl) ?_
  refine lv_iconst (v := (nI 2)) hxe hcd dL_law_1059 (by decide) ?_
  refine n_iadd S (a := i) (b := 2) dL_law_1060 ?_
  refine l_sc S hU hX hbl hbA (j := (i + 2)) (by omega) hL31 dL_law_1061 ?_
  refine lv_aload_n hxe hcd dL_law_1062 rfl (lv_at hl 3 rfl) ?_
  refine l_J hZ S hU (As := [.ref (A (0, 14)), .int (xs (i + 1)), .int (xs (i + 2)), .ref aj]) (rest := []) (t_L_sampleByFilter l hl0 hZ hZX hNC aj f A g μ H.size hVG hR (xs (i + 1)) (xs (i + 2))) lk_L_sampleByFilter hl.1 rfl rfl (Nat.le_of_ble_eq_true rfl) ⟨(Nat.le_of_ble_eq_true rfl), (Nat.le_of_ble_eq_true rfl)⟩ ⟨hc, hs⟩ dL_law_1063 (fun r u H locs hC hU => ?_)
  refine lv_istore (lv' := [(6, .int r), (0, .ref b), (1, .ref (A (0, 14))), (2, .ref (B 0)), (3, .ref aj), (4, .ref ad), (5, .int (nI i))]) hxe hcd dL_law_1066 hl (by decide) rfl (fun ls hl => ?_)
  refine lv_aload_n hxe hcd dL_law_1068 rfl (lv_at hl 3 rfl) ?_
  refine lv_aload_n hxe hcd dL_law_1069 rfl (lv_at hl 1 rfl) ?_
  refine lv_iload hxe hcd dL_law_1070 (lv_at hl 6 rfl) ?_
  refine lv_iconst (v := (nI 1)) hxe hcd dL_law_1072 (by decide) ?_
  refine n_iadd S (a := i) (b := 1) dL_law_1073 ?_
  refine l_sc S hU hX hbl hbA (j := (i + 1)) (by omega) hL31 dL_law_1074 ?_
  refine lv_aload_n hxe hcd dL_law_1075 rfl (lv_at hl 1 rfl) ?_
  refine lv_iload hxe hcd dL_law_1076 (lv_at hl 6 rfl) ?_
  refine lv_iconst (v := (nI 2)) hxe hcd dL_law_1078 (by decide) ?_
  refine n_iadd S (a := i) (b := 2) dL_law_1079 ?_
  refine l_sc S hU hX hbl hbA (j := (i + 2)) (by omega) hL31 dL_law_1080 ?_
  refine l_Mi hZ S hU (As := [.int (xs (i + 1)), .int (xs (i + 2))]) (rest := []) (t_X10_sampleByFilter l hZ B ν H.size (lnV (ν 1)) hVG.2.2.1 hVG.1.1 hVG.1.2 (psV (ν 1)) hVG.2.2.2.2.2.2.1 (xs (i + 1)) (xs (i + 2))) k_L_204 (l_rm hU) hl.1 rfl rfl (Nat.le_of_ble_eq_true rfl) ⟨(Nat.le_of_ble_eq_true rfl), (Nat.le_of_ble_eq_true rfl)⟩ ⟨hc, hs⟩ dL_law_1081 (fun rb ω H locs hM hU => ?_)
  obtain ⟨hCR2, hA2, hth, hres⟩ := j_sampleByFilter hCR hkr hc8 hch hHR  (v := ν 1) rfl hC hM
  refine lv_istore (lv' := [(7, .int rb), (6, .int r), (0, .ref b), (1, .ref (A (0, 14))), (2, .ref (B 0)), (3, .ref aj), (4, .ref ad), (5, .int (nI i))]) hxe hcd dL_law_1084 hl (by decide) rfl (fun ls hl => ?_)
  refine lv_aload_n hxe hcd dL_law_1086 rfl (lv_at hl 4 rfl) ?_
  refine l_T hZ S hU (As := []) (rest := []) (t_X10_thrown l hZ B ω H.size) k_L_158 (l_rm hU) hl.1 rfl rfl (Nat.le_of_ble_eq_true rfl) ⟨(Nat.le_of_ble_eq_true rfl), (Nat.le_of_ble_eq_true rfl)⟩ ⟨hc, hs⟩ dL_law_1087 (fun r3 H locs h3 hU => ?_)
  have h3 := h3.symm
  subst h3
  refine r_as hth ?_
  refine lv_iload hxe hcd dL_law_1090 (lv_at hl 1 rfl) ?_
  refine lv_icmp_eq (tgt := 1097) hxe hcd dL_law_1092 (by decide) (fun _ => ?_) (fun h => absurd rfl h)
  refine lv_iload hxe hcd dL_law_1097 (lv_at hl 1 rfl) ?_
  refine lv_if_ne (tgt := 1114) hxe hcd dL_law_1099 (by decide) (fun hk => ?_) (fun hk => ?_)
  · refine lv_goto (tgt := 2709) hxe hcd dL_law_1114 (by decide) ?_
    exact kk u.1 ω u.2 fd H locs ls hU hCR2 hA2 (lv_sub hl [2, 3, 4, 5, 6, 7] rfl)
  · have hres := hres hk
    refine lv_aload_n hxe hcd dL_law_1102 rfl (lv_at hl 5 rfl) ?_
    refine lv_iconst (v := (nI 0)) hxe hcd dL_law_1103 (by decide) ?_
    refine l_jld S hU dL_law_1104 ?_
    refine lv_iload hxe hcd dL_law_1105 (lv_at hl 0 rfl) ?_
    refine lv_i2l (v := rb.toInt64) hxe hcd dL_law_1107 rfl ?_
    refine W.lcmp hxe hcd dL_law_1108 ?_
    refine r_as (y := 0) (by rw [hres]; exact lgc_self _) ?_
    refine lv_if_eq (tgt := 1114) hxe hcd dL_law_1109 (by decide) (fun _ => ?_) (fun h => absurd rfl h)
    refine lv_goto (tgt := 2709) hxe hcd dL_law_1114 (by decide) ?_
    exact kk u.1 ω u.2 fd H locs ls hU hCR2 hA2 (lv_sub hl [2, 3, 4, 5, 6, 7] rfl)
theorem lk_L_mixedSample : lkW RL 205 yL_mixedSample cL_mixedSample 6 [(0, 12, 15, 21), (0, 12, 19, 45)] 5 := ⟨g_863, g_864, g_66, g_865, ⟨by decide +kernel, by decide +kernel, by decide +kernel⟩⟩
set_option maxHeartbeats 4000000 in
set_option maxRecDepth 100000 in
theorem c_14 (l : Launch) (hl0 : l.stackTraces = false) {Z : ZT} (hZ : zOK Z) (hZX : ZX Z) (hNC : XNC Z) {wd : WDT} (hw : ZW Z wd) {p : Program} {e : Env} {s : State} {m : MethodId} {below : List Frame} {meth : Method} {c : Code} {b : Nat} (S : CallFix p m c cL_law 9 s #[Value.ref b] GT RL) {L : Nat} {xs : Nat → Int32} (hX : va_X b L xs s s.heap) (hbl : b < s.heap.size) (hL31 : L < 2 ^ 31) {A0 : Nat → Prop} (hbA : ¬ A0 b) {aj ad : Nat} {B : Nat → Nat} {Q : State → Prop} {g : Nat → Bool} {A : Nat × Nat → Nat} {μ : CM} {ν : MM} {f : Nat → Int64} {fd : Nat → UInt64} {H : Heap} {locs : List Loc} {ls : Array Slot} {i cells slots : Nat} (hU : wW Z (LW Z aj ad B (g, A, μ) ν f fd) A0 s H locs) (hCR : CR (g, A, μ) ν) (hi : i + 4 < L) (hl : lv_has ls 9 [(0, .ref b), (1, .ref (A (0, 14))), (2, .ref (B 0)), (3, .ref aj), (4, .ref ad), (5, .int (nI i))]) (hc : cells + 15 ≤ 603072) (hs : slots + 1376 ≤ 7190633)
  (kk : ∀ (v' : GM) (ν' : MM) (f' : Nat → Int64) (fd' : Nat → UInt64) (H' : Heap) (locs' : List Loc) (ls' : Array Slot), wW Z (LW Z aj ad B v' ν' f' fd') A0 s H' locs' → CR v' ν' → v'.2.1 (0, 14) = A (0, 14) → lv_has ls' 9 [(0, .ref b), (1, .ref (A (0, 14))), (2, .ref (B 0)), (3, .ref aj), (4, .ref ad), (5, .int (nI i))] → W p l e room_1 s m #[Value.ref b] below meth c H' locs' (cells + 15) (slots + 1376) Q (F0 m 2709 ls' [])) : W p l e room_1 s m #[Value.ref b] below meth c H locs cells slots Q (F0 m 1117 ls []) := by
  have hxe := S.1
  have hcd := S.2.1
  obtain ⟨hVG, hR, ⟨kr, cn, hkr, hc8, hk15, hcn, hch, hHR⟩, ⟨sv, hs4, hsv1, hm9, hsn⟩, ⟨tn, t, ht17, ht22, htn60, htx⟩, ⟨lN, hl20, hl26, hlN80, hlx⟩, ⟨he10, he11, hep2, hep3⟩, ⟨hwd, hwa⟩⟩ := id hCR
  have hR : RP (μ 0) (ν 1) := hR
  have hk15 : μ 0 15 1 = nI kr := hk15
  have hcn : μ 0 15 2 = nI cn := hcn
  have hHR : HR g μ kr cn (ν 5) := hHR
  have hm9 : μ 0 14 9 = nI sv := hm9
  have hsn : sv = 1 → VG (ν 3) ∧ RP (μ 2) (ν 3) := hsn
  have ht22 : μ 0 22 1 = nI tn := ht22
  have htx : ∀ j, j < tn → ν 8 j = nI (t j) ∧ μ 0 23 j = nI (t j) ∧ t j < 128 := htx
  have hl26 : μ 0 26 1 = nI lN := hl26
  have hlx : ∀ j, j < lN → ν 9 j = μ 0 27 j ∧ CH (ν 9 j) := hlx
  refine lv_aload_n hxe hcd dL_law_1117 rfl (lv_at hl 1 rfl) ?_
  refine lv_aload_n hxe hcd dL_law_1118 rfl (lv_at hl 0 rfl) ?_
  refine lv_iload hxe hcd dL_law_1119 (lv_at hl 5 rfl) ?_
  refine lv_iconst (v := (nI 1)) hxe hcd dL_law_1121 (by decide) ?_
  refine n_iadd S (a := i) (b := 1) dL_law_1122 ?_
  refine l_sc S hU hX hbl hbA (j := (i + 1)) (by omega) hL31 dL_law_1123 ?_
  refine lv_aload_n hxe hcd dL_law_1124 rfl (lv_at hl 0 rfl) ?_
  refine lv_iload hxe hcd dL_law_1125 (lv_at hl 5 rfl) ?_
  refine lv_iconst (v := (nI 2)) hxe hcd dL_law_1127 (by decide) ?_
  refine n_iadd S (a := i) (b := 2) dL_law_1128 ?_
  refine l_sc S hU hX hbl hbA (j := (i + 2)) (by omega) hL31 dL_law_1129 ?_
  refine lv_aload_n hxe hcd dL_law_1130 rfl (lv_at hl 0 rfl) ?_
  refine lv_iload hxe hcd dL_law_1131 (lv_at hl 5 rfl) ?_
  refine lv_iconst (v := (nI 3)) hxe hcd dL_law_1133 (by decide) ?_
  refine n_iadd S (a := i) (b := 3) dL_law_1134 ?_
  refine l_sc S hU hX hbl hbA (j := (i + 3)) (by omega) hL31 dL_law_1135 ?_
  refine lv_aload_n hxe hcd dL_law_1136 rfl (lv_at hl 3 rfl) ?_
  refine l_J hZ S hU (As := [.ref (A (0, 14)), .int (xs (i + 1)), .int (xs (i + 2)), .int (xs (i + 3)), .ref aj]) (rest := []) (t_L_mixedSample l hl0 hZ hZX hNC aj f A g μ H.size hVG hR (xs (i + 1)) (xs (i + 2)) (xs (i + 3))) lk_L_mixedSample hl.1 rfl rfl (Nat.le_of_ble_eq_true rfl) ⟨(Nat.le_of_ble_eq_true rfl), (Nat.le_of_ble_eq_true rfl)⟩ ⟨hc, hs⟩ dL_law_1137 (fun r u H locs hC hU => ?_)
  refine lv_istore (lv' := [(6, .int r), (0, .ref b), (1, .ref (A (0, 14))), (2, .ref (B 0)), (3, .ref aj), (4, .ref ad), (5, .int (nI i))]) hxe hcd dL_law_1140 hl (by decide) rfl (fun ls hl => ?_)
  refine lv_aload_n hxe hcd dL_law_1142 rfl (lv_at hl 3 rfl) ?_
  refine lv_aload_n hxe hcd dL_law_1143 rfl (lv_at hl 1 rfl) ?_
  refine lv_iload hxe hcd dL_law_1144 (lv_at hl 6 rfl) ?_
  refine lv_iconst (v := (nI 1)) hxe hcd dL_law_1146 (by decide) ?_
  refine n_iadd S (a := i) (b := 1) dL_law_1147 ?_
  refine l_sc S hU hX hbl hbA (j := (i + 1)) (by omega) hL31 dL_law_1148 ?_
  refine lv_aload_n hxe hcd dL_law_1149 rfl (lv_at hl 1 rfl) ?_
  refine lv_iload hxe hcd dL_law_1150 (lv_at hl 6 rfl) ?_
  refine lv_iconst (v := (nI 2)) hxe hcd dL_law_1152 (by decide) ?_
  refine n_iadd S (a := i) (b := 2) dL_law_1153 ?_
  refine l_sc S hU hX hbl hbA (j := (i + 2)) (by omega) hL31 dL_law_1154 ?_
  refine lv_aload_n hxe hcd dL_law_1155 rfl (lv_at hl 1 rfl) ?_
  refine lv_iload hxe hcd dL_law_1156 (lv_at hl 6 rfl) ?_
  refine lv_iconst (v := (nI 3)) hxe hcd dL_law_1158 (by decide) ?_
  refine n_iadd S (a := i) (b := 3) dL_law_1159 ?_
  refine l_sc S hU hX hbl hbA (j := (i + 3)) (by omega) hL31 dL_law_1160 ?_
  refine l_Mi hZ S hU (As := [.int (xs (i + 1)), .int (xs (i + 2)), .int (xs (i + 3))]) (rest := []) (t_X10_mixedSample l hZ B ν H.size (lnV (ν 1)) hVG.2.2.1 hVG.1.1 hVG.1.2 (psV (ν 1)) hVG.2.2.2.2.2.2.1 (xs (i + 1)) (xs (i + 2)) (xs (i + 3))) k_L_208 (l_rm hU) hl.1 rfl rfl (Nat.le_of_ble_eq_true rfl) ⟨(Nat.le_of_ble_eq_true rfl), (Nat.le_of_ble_eq_true rfl)⟩ ⟨hc, hs⟩ dL_law_1161 (fun rb ω H locs hM hU => ?_)
  obtain ⟨hCR2, hA2, hth, hres⟩ := j_mixedSample hCR hkr hc8 hch hHR  (v := ν 1) rfl hC hM
  refine lv_istore (lv' := [(7, .int rb), (6, .int r), (0, .ref b), (1, .ref (A (0, 14))), (2, .ref (B 0)), (3, .ref aj), (4, .ref ad), (5, .int (nI i))]) hxe hcd dL_law_1164 hl (by decide) rfl (fun ls hl => ?_)
  refine lv_aload_n hxe hcd dL_law_1166 rfl (lv_at hl 4 rfl) ?_
  refine l_T hZ S hU (As := []) (rest := []) (t_X10_thrown l hZ B ω H.size) k_L_158 (l_rm hU) hl.1 rfl rfl (Nat.le_of_ble_eq_true rfl) ⟨(Nat.le_of_ble_eq_true rfl), (Nat.le_of_ble_eq_true rfl)⟩ ⟨hc, hs⟩ dL_law_1167 (fun r3 H locs h3 hU => ?_)
  have h3 := h3.symm
  subst h3
  refine r_as hth ?_
  refine lv_iload hxe hcd dL_law_1170 (lv_at hl 1 rfl) ?_
  refine lv_icmp_eq (tgt := 1177) hxe hcd dL_law_1172 (by decide) (fun _ => ?_) (fun h => absurd rfl h)
  refine lv_iload hxe hcd dL_law_1177 (lv_at hl 1 rfl) ?_
  refine lv_if_ne (tgt := 1194) hxe hcd dL_law_1179 (by decide) (fun hk => ?_) (fun hk => ?_)
  · refine lv_goto (tgt := 2709) hxe hcd dL_law_1194 (by decide) ?_
    exact kk u.1 ω u.2 fd H locs ls hU hCR2 hA2 (lv_sub hl [2, 3, 4, 5, 6, 7] rfl)
  · have hres := hres hk
    refine lv_aload_n hxe hcd dL_law_1182 rfl (lv_at hl 5 rfl) ?_
    refine lv_iconst (v := (nI 0)) hxe hcd dL_law_1183 (by decide) ?_
    refine l_jld S hU dL_law_1184 ?_
    refine lv_iload hxe hcd dL_law_1185 (lv_at hl 0 rfl) ?_
    refine lv_i2l (v := rb.toInt64) hxe hcd dL_law_1187 rfl ?_
    refine W.lcmp hxe hcd dL_law_1188 ?_
    refine r_as (y := 0) (by rw [hres]; exact lgc_self _) ?_
    refine lv_if_eq (tgt := 1194) hxe hcd dL_law_1189 (by decide) (fun _ => ?_) (fun h => absurd rfl h)
    refine lv_goto (tgt := 2709) hxe hcd dL_law_1194 (by decide) ?_
    exact kk u.1 ω u.2 fd H locs ls hU hCR2 hA2 (lv_sub hl [2, 3, 4, 5, 6, 7] rfl)
theorem lk_L_peak : lkW RL 209 yL_peak cL_peak 4 [(0, 9, 12, 21), (0, 9, 15, 45)] 3 := ⟨g_871, g_872, g_66, g_873, ⟨by decide +kernel, by decide +kernel, by decide +kernel⟩⟩
set_option maxHeartbeats 4000000 in
set_option maxRecDepth 100000 in
theorem c_15 (l : Launch) (hl0 : l.stackTraces = false) {Z : ZT} (hZ : zOK Z) (hZX : ZX Z) (hNC : XNC Z) {wd : WDT} (hw : ZW Z wd) {p : Program} {e : Env} {s : State} {m : MethodId} {below : List Frame} {meth : Method} {c : Code} {b : Nat} (S : CallFix p m c cL_law 9 s #[Value.ref b] GT RL) {L : Nat} {xs : Nat → Int32} (hX : va_X b L xs s s.heap) (hbl : b < s.heap.size) (hL31 : L < 2 ^ 31) {A0 : Nat → Prop} (hbA : ¬ A0 b) {aj ad : Nat} {B : Nat → Nat} {Q : State → Prop} {g : Nat → Bool} {A : Nat × Nat → Nat} {μ : CM} {ν : MM} {f : Nat → Int64} {fd : Nat → UInt64} {H : Heap} {locs : List Loc} {ls : Array Slot} {i cells slots : Nat} (hU : wW Z (LW Z aj ad B (g, A, μ) ν f fd) A0 s H locs) (hCR : CR (g, A, μ) ν) (hi : i + 4 < L) (hl : lv_has ls 9 [(0, .ref b), (1, .ref (A (0, 14))), (2, .ref (B 0)), (3, .ref aj), (4, .ref ad), (5, .int (nI i))]) (hc : cells + 15 ≤ 603072) (hs : slots + 1376 ≤ 7190633)
  (kk : ∀ (v' : GM) (ν' : MM) (f' : Nat → Int64) (fd' : Nat → UInt64) (H' : Heap) (locs' : List Loc) (ls' : Array Slot), wW Z (LW Z aj ad B v' ν' f' fd') A0 s H' locs' → CR v' ν' → v'.2.1 (0, 14) = A (0, 14) → lv_has ls' 9 [(0, .ref b), (1, .ref (A (0, 14))), (2, .ref (B 0)), (3, .ref aj), (4, .ref ad), (5, .int (nI i))] → W p l e room_1 s m #[Value.ref b] below meth c H' locs' (cells + 15) (slots + 1376) Q (F0 m 2709 ls' [])) : W p l e room_1 s m #[Value.ref b] below meth c H locs cells slots Q (F0 m 1197 ls []) := by
  have hxe := S.1
  have hcd := S.2.1
  obtain ⟨hVG, hR, ⟨kr, cn, hkr, hc8, hk15, hcn, hch, hHR⟩, ⟨sv, hs4, hsv1, hm9, hsn⟩, ⟨tn, t, ht17, ht22, htn60, htx⟩, ⟨lN, hl20, hl26, hlN80, hlx⟩, ⟨he10, he11, hep2, hep3⟩, ⟨hwd, hwa⟩⟩ := id hCR
  have hR : RP (μ 0) (ν 1) := hR
  have hk15 : μ 0 15 1 = nI kr := hk15
  have hcn : μ 0 15 2 = nI cn := hcn
  have hHR : HR g μ kr cn (ν 5) := hHR
  have hm9 : μ 0 14 9 = nI sv := hm9
  have hsn : sv = 1 → VG (ν 3) ∧ RP (μ 2) (ν 3) := hsn
  have ht22 : μ 0 22 1 = nI tn := ht22
  have htx : ∀ j, j < tn → ν 8 j = nI (t j) ∧ μ 0 23 j = nI (t j) ∧ t j < 128 := htx
  have hl26 : μ 0 26 1 = nI lN := hl26
  have hlx : ∀ j, j < lN → ν 9 j = μ 0 27 j ∧ CH (ν 9 j) := hlx
  refine lv_aload_n hxe hcd dL_law_1197 rfl (lv_at hl 1 rfl) ?_
  refine lv_aload_n hxe hcd dL_law_1198 rfl (lv_at hl 0 rfl) ?_
  refine lv_iload hxe hcd dL_law_1199 (lv_at hl 5 rfl) ?_
  refine lv_iconst (v := (nI 1)) hxe hcd dL_law_1201 (by decide) ?_
  refine n_iadd S (a := i) (b := 1) dL_law_1202 ?_
  refine l_sc S hU hX hbl hbA (j := (i + 1)) (by omega) hL31 dL_law_1203 ?_
  refine lv_aload_n hxe hcd dL_law_1204 rfl (lv_at hl 3 rfl) ?_
  refine l_J hZ S hU (As := [.ref (A (0, 14)), .int (xs (i + 1)), .ref aj]) (rest := []) (t_L_peak l hl0 hZ hZX hNC aj f A g μ H.size hVG hR (xs (i + 1))) lk_L_peak hl.1 rfl rfl (Nat.le_of_ble_eq_true rfl) ⟨(Nat.le_of_ble_eq_true rfl), (Nat.le_of_ble_eq_true rfl)⟩ ⟨hc, hs⟩ dL_law_1205 (fun r u H locs hC hU => ?_)
  refine lv_istore (lv' := [(6, .int r), (0, .ref b), (1, .ref (A (0, 14))), (2, .ref (B 0)), (3, .ref aj), (4, .ref ad), (5, .int (nI i))]) hxe hcd dL_law_1208 hl (by decide) rfl (fun ls hl => ?_)
  refine lv_aload_n hxe hcd dL_law_1210 rfl (lv_at hl 3 rfl) ?_
  refine lv_aload_n hxe hcd dL_law_1211 rfl (lv_at hl 1 rfl) ?_
  refine lv_iload hxe hcd dL_law_1212 (lv_at hl 6 rfl) ?_
  refine lv_iconst (v := (nI 1)) hxe hcd dL_law_1214 (by decide) ?_
  refine n_iadd S (a := i) (b := 1) dL_law_1215 ?_
  refine l_sc S hU hX hbl hbA (j := (i + 1)) (by omega) hL31 dL_law_1216 ?_
  refine l_Mi hZ S hU (As := [.int (xs (i + 1))]) (rest := []) (t_X10_peak l hZ B ν H.size (lnV (ν 1)) hVG.2.2.1 hVG.1.1 hVG.1.2 (psV (ν 1)) hVG.2.2.2.2.2.2.1 (xs (i + 1))) k_L_211 (l_rm hU) hl.1 rfl rfl (Nat.le_of_ble_eq_true rfl) ⟨(Nat.le_of_ble_eq_true rfl), (Nat.le_of_ble_eq_true rfl)⟩ ⟨hc, hs⟩ dL_law_1217 (fun rb ω H locs hM hU => ?_)
  obtain ⟨hCR2, hA2, hth, hres⟩ := j_peak hCR hkr hc8 hch hHR  (v := ν 1) rfl hC hM
  refine lv_istore (lv' := [(7, .int rb), (6, .int r), (0, .ref b), (1, .ref (A (0, 14))), (2, .ref (B 0)), (3, .ref aj), (4, .ref ad), (5, .int (nI i))]) hxe hcd dL_law_1220 hl (by decide) rfl (fun ls hl => ?_)
  refine lv_aload_n hxe hcd dL_law_1222 rfl (lv_at hl 4 rfl) ?_
  refine l_T hZ S hU (As := []) (rest := []) (t_X10_thrown l hZ B ω H.size) k_L_158 (l_rm hU) hl.1 rfl rfl (Nat.le_of_ble_eq_true rfl) ⟨(Nat.le_of_ble_eq_true rfl), (Nat.le_of_ble_eq_true rfl)⟩ ⟨hc, hs⟩ dL_law_1223 (fun r3 H locs h3 hU => ?_)
  have h3 := h3.symm
  subst h3
  refine r_as hth ?_
  refine lv_iload hxe hcd dL_law_1226 (lv_at hl 1 rfl) ?_
  refine lv_icmp_eq (tgt := 1233) hxe hcd dL_law_1228 (by decide) (fun _ => ?_) (fun h => absurd rfl h)
  refine lv_iload hxe hcd dL_law_1233 (lv_at hl 1 rfl) ?_
  refine lv_if_ne (tgt := 1250) hxe hcd dL_law_1235 (by decide) (fun hk => ?_) (fun hk => ?_)
  · refine lv_goto (tgt := 2709) hxe hcd dL_law_1250 (by decide) ?_
    exact kk u.1 ω u.2 fd H locs ls hU hCR2 hA2 (lv_sub hl [2, 3, 4, 5, 6, 7] rfl)
  · have hres := hres hk
    refine lv_aload_n hxe hcd dL_law_1238 rfl (lv_at hl 5 rfl) ?_
    refine lv_iconst (v := (nI 0)) hxe hcd dL_law_1239 (by decide) ?_
    refine l_jld S hU dL_law_1240 ?_
    refine lv_iload hxe hcd dL_law_1241 (lv_at hl 0 rfl) ?_
    refine lv_i2l (v := rb.toInt64) hxe hcd dL_law_1243 rfl ?_
    refine W.lcmp hxe hcd dL_law_1244 ?_
    refine r_as (y := 0) (by rw [hres]; exact lgc_self _) ?_
    refine lv_if_eq (tgt := 1250) hxe hcd dL_law_1245 (by decide) (fun _ => ?_) (fun h => absurd rfl h)
    refine lv_goto (tgt := 2709) hxe hcd dL_law_1250 (by decide) ?_
    exact kk u.1 ω u.2 fd H locs ls hU hCR2 hA2 (lv_sub hl [2, 3, 4, 5, 6, 7] rfl)
theorem lk_L_energy : lkW RL 212 yL_energy cL_energy 4 [(0, 8, 11, 21)] 3 := ⟨g_879, g_880, g_66, g_881, ⟨by decide +kernel, by decide +kernel, by decide +kernel⟩⟩
set_option maxHeartbeats 4000000 in
set_option maxRecDepth 100000 in
theorem c_16 (l : Launch) (hl0 : l.stackTraces = false) {Z : ZT} (hZ : zOK Z) (hZX : ZX Z) (hNC : XNC Z) {wd : WDT} (hw : ZW Z wd) {p : Program} {e : Env} {s : State} {m : MethodId} {below : List Frame} {meth : Method} {c : Code} {b : Nat} (S : CallFix p m c cL_law 9 s #[Value.ref b] GT RL) {L : Nat} {xs : Nat → Int32} (hX : va_X b L xs s s.heap) (hbl : b < s.heap.size) (hL31 : L < 2 ^ 31) {A0 : Nat → Prop} (hbA : ¬ A0 b) {aj ad : Nat} {B : Nat → Nat} {Q : State → Prop} {g : Nat → Bool} {A : Nat × Nat → Nat} {μ : CM} {ν : MM} {f : Nat → Int64} {fd : Nat → UInt64} {H : Heap} {locs : List Loc} {ls : Array Slot} {i cells slots : Nat} (hU : wW Z (LW Z aj ad B (g, A, μ) ν f fd) A0 s H locs) (hCR : CR (g, A, μ) ν) (hi : i + 4 < L) (hl : lv_has ls 9 [(0, .ref b), (1, .ref (A (0, 14))), (2, .ref (B 0)), (3, .ref aj), (4, .ref ad), (5, .int (nI i))]) (hc : cells + 15 ≤ 603072) (hs : slots + 1376 ≤ 7190633)
  (kk : ∀ (v' : GM) (ν' : MM) (f' : Nat → Int64) (fd' : Nat → UInt64) (H' : Heap) (locs' : List Loc) (ls' : Array Slot), wW Z (LW Z aj ad B v' ν' f' fd') A0 s H' locs' → CR v' ν' → v'.2.1 (0, 14) = A (0, 14) → lv_has ls' 9 [(0, .ref b), (1, .ref (A (0, 14))), (2, .ref (B 0)), (3, .ref aj), (4, .ref ad), (5, .int (nI i))] → W p l e room_1 s m #[Value.ref b] below meth c H' locs' (cells + 15) (slots + 1376) Q (F0 m 2709 ls' [])) : W p l e room_1 s m #[Value.ref b] below meth c H locs cells slots Q (F0 m 1253 ls []) := by
  have hxe := S.1
  have hcd := S.2.1
  obtain ⟨hVG, hR, ⟨kr, cn, hkr, hc8, hk15, hcn, hch, hHR⟩, ⟨sv, hs4, hsv1, hm9, hsn⟩, ⟨tn, t, ht17, ht22, htn60, htx⟩, ⟨lN, hl20, hl26, hlN80, hlx⟩, ⟨he10, he11, hep2, hep3⟩, ⟨hwd, hwa⟩⟩ := id hCR
  have hR : RP (μ 0) (ν 1) := hR
  have hk15 : μ 0 15 1 = nI kr := hk15
  have hcn : μ 0 15 2 = nI cn := hcn
  have hHR : HR g μ kr cn (ν 5) := hHR
  have hm9 : μ 0 14 9 = nI sv := hm9
  have hsn : sv = 1 → VG (ν 3) ∧ RP (μ 2) (ν 3) := hsn
  have ht22 : μ 0 22 1 = nI tn := ht22
  have htx : ∀ j, j < tn → ν 8 j = nI (t j) ∧ μ 0 23 j = nI (t j) ∧ t j < 128 := htx
  have hl26 : μ 0 26 1 = nI lN := hl26
  have hlx : ∀ j, j < lN → ν 9 j = μ 0 27 j ∧ CH (ν 9 j) := hlx
  refine lv_aload_n hxe hcd dL_law_1253 rfl (lv_at hl 1 rfl) ?_
  refine lv_aload_n hxe hcd dL_law_1254 rfl (lv_at hl 0 rfl) ?_
  refine lv_iload hxe hcd dL_law_1255 (lv_at hl 5 rfl) ?_
  refine lv_iconst (v := (nI 1)) hxe hcd dL_law_1257 (by decide) ?_
  refine n_iadd S (a := i) (b := 1) dL_law_1258 ?_
  refine l_sc S hU hX hbl hbA (j := (i + 1)) (by omega) hL31 dL_law_1259 ?_
  refine lv_aload_n hxe hcd dL_law_1260 rfl (lv_at hl 3 rfl) ?_
  refine l_J hZ S hU (As := [.ref (A (0, 14)), .int (xs (i + 1)), .ref aj]) (rest := []) (t_L_energy l hl0 hZ hZX hNC aj f A g μ H.size hVG hR (xs (i + 1))) lk_L_energy hl.1 rfl rfl (Nat.le_of_ble_eq_true rfl) ⟨(Nat.le_of_ble_eq_true rfl), (Nat.le_of_ble_eq_true rfl)⟩ ⟨hc, hs⟩ dL_law_1261 (fun r u H locs hC hU => ?_)
  refine lv_istore (lv' := [(6, .int r), (0, .ref b), (1, .ref (A (0, 14))), (2, .ref (B 0)), (3, .ref aj), (4, .ref ad), (5, .int (nI i))]) hxe hcd dL_law_1264 hl (by decide) rfl (fun ls hl => ?_)
  refine lv_aload_n hxe hcd dL_law_1266 rfl (lv_at hl 3 rfl) ?_
  refine lv_aload_n hxe hcd dL_law_1267 rfl (lv_at hl 1 rfl) ?_
  refine lv_iload hxe hcd dL_law_1268 (lv_at hl 6 rfl) ?_
  refine lv_iconst (v := (nI 1)) hxe hcd dL_law_1270 (by decide) ?_
  refine n_iadd S (a := i) (b := 1) dL_law_1271 ?_
  refine l_sc S hU hX hbl hbA (j := (i + 1)) (by omega) hL31 dL_law_1272 ?_
  refine l_Ml hZ S hU (As := [.int (xs (i + 1))]) (rest := []) (t_X10_energy l hZ B ν H.size (lnV (ν 1)) hVG.2.2.1 hVG.1.1 hVG.1.2 (psV (ν 1)) hVG.2.2.2.2.2.2.1 (xs (i + 1))) k_L_214 (l_rm hU) hl.1 rfl rfl (Nat.le_of_ble_eq_true rfl) ⟨(Nat.le_of_ble_eq_true rfl), (Nat.le_of_ble_eq_true rfl)⟩ ⟨hc, hs⟩ dL_law_1273 (fun rb ω H locs hM hU => ?_)
  obtain ⟨hCR2, hA2, hth, hres⟩ := j_energy hCR hkr hc8 hch hHR  (v := ν 1) rfl hC hM
  refine lv_lstore (lv' := [(7, .long rb), (6, .int r), (0, .ref b), (1, .ref (A (0, 14))), (2, .ref (B 0)), (3, .ref aj), (4, .ref ad), (5, .int (nI i))]) hxe hcd dL_law_1276 hl (by decide) rfl (fun ls hl => ?_)
  refine lv_aload_n hxe hcd dL_law_1278 rfl (lv_at hl 4 rfl) ?_
  refine l_T hZ S hU (As := []) (rest := []) (t_X10_thrown l hZ B ω H.size) k_L_158 (l_rm hU) hl.1 rfl rfl (Nat.le_of_ble_eq_true rfl) ⟨(Nat.le_of_ble_eq_true rfl), (Nat.le_of_ble_eq_true rfl)⟩ ⟨hc, hs⟩ dL_law_1279 (fun r3 H locs h3 hU => ?_)
  have h3 := h3.symm
  subst h3
  refine r_as hth ?_
  refine lv_iload hxe hcd dL_law_1282 (lv_at hl 1 rfl) ?_
  refine lv_icmp_eq (tgt := 1289) hxe hcd dL_law_1284 (by decide) (fun _ => ?_) (fun h => absurd rfl h)
  refine lv_iload hxe hcd dL_law_1289 (lv_at hl 1 rfl) ?_
  refine lv_if_ne (tgt := 1305) hxe hcd dL_law_1291 (by decide) (fun hk => ?_) (fun hk => ?_)
  · refine lv_goto (tgt := 2709) hxe hcd dL_law_1305 (by decide) ?_
    exact kk u.1 ω u.2 fd H locs ls hU hCR2 hA2 (lv_sub hl [2, 3, 4, 5, 6, 7] rfl)
  · have hres := hres hk
    refine lv_aload_n hxe hcd dL_law_1294 rfl (lv_at hl 5 rfl) ?_
    refine lv_iconst (v := (nI 0)) hxe hcd dL_law_1295 (by decide) ?_
    refine l_jld S hU dL_law_1296 ?_
    refine lv_lload hxe hcd dL_law_1297 (lv_at hl 0 rfl) ?_
    refine W.lcmp hxe hcd dL_law_1299 ?_
    refine r_as (y := 0) (by rw [hres]; exact lgc_self _) ?_
    refine lv_if_eq (tgt := 1305) hxe hcd dL_law_1300 (by decide) (fun _ => ?_) (fun h => absurd rfl h)
    refine lv_goto (tgt := 2709) hxe hcd dL_law_1305 (by decide) ?_
    exact kk u.1 ω u.2 fd H locs ls hU hCR2 hA2 (lv_sub hl [2, 3, 4, 5, 6, 7] rfl)
theorem lk_L_signChanges : lkW RL 215 yL_signChanges cL_signChanges 4 [(0, 9, 12, 21)] 3 := ⟨g_886, g_887, g_66, g_888, ⟨by decide +kernel, by decide +kernel, by decide +kernel⟩⟩
set_option maxHeartbeats 4000000 in
set_option maxRecDepth 100000 in
theorem c_17 (l : Launch) (hl0 : l.stackTraces = false) {Z : ZT} (hZ : zOK Z) (hZX : ZX Z) (hNC : XNC Z) {wd : WDT} (hw : ZW Z wd) {p : Program} {e : Env} {s : State} {m : MethodId} {below : List Frame} {meth : Method} {c : Code} {b : Nat} (S : CallFix p m c cL_law 9 s #[Value.ref b] GT RL) {L : Nat} {xs : Nat → Int32} (hX : va_X b L xs s s.heap) (hbl : b < s.heap.size) (hL31 : L < 2 ^ 31) {A0 : Nat → Prop} (hbA : ¬ A0 b) {aj ad : Nat} {B : Nat → Nat} {Q : State → Prop} {g : Nat → Bool} {A : Nat × Nat → Nat} {μ : CM} {ν : MM} {f : Nat → Int64} {fd : Nat → UInt64} {H : Heap} {locs : List Loc} {ls : Array Slot} {i cells slots : Nat} (hU : wW Z (LW Z aj ad B (g, A, μ) ν f fd) A0 s H locs) (hCR : CR (g, A, μ) ν) (hi : i + 4 < L) (hl : lv_has ls 9 [(0, .ref b), (1, .ref (A (0, 14))), (2, .ref (B 0)), (3, .ref aj), (4, .ref ad), (5, .int (nI i))]) (hc : cells + 15 ≤ 603072) (hs : slots + 1376 ≤ 7190633)
  (kk : ∀ (v' : GM) (ν' : MM) (f' : Nat → Int64) (fd' : Nat → UInt64) (H' : Heap) (locs' : List Loc) (ls' : Array Slot), wW Z (LW Z aj ad B v' ν' f' fd') A0 s H' locs' → CR v' ν' → v'.2.1 (0, 14) = A (0, 14) → lv_has ls' 9 [(0, .ref b), (1, .ref (A (0, 14))), (2, .ref (B 0)), (3, .ref aj), (4, .ref ad), (5, .int (nI i))] → W p l e room_1 s m #[Value.ref b] below meth c H' locs' (cells + 15) (slots + 1376) Q (F0 m 2709 ls' [])) : W p l e room_1 s m #[Value.ref b] below meth c H locs cells slots Q (F0 m 1308 ls []) := by
  have hxe := S.1
  have hcd := S.2.1
  obtain ⟨hVG, hR, ⟨kr, cn, hkr, hc8, hk15, hcn, hch, hHR⟩, ⟨sv, hs4, hsv1, hm9, hsn⟩, ⟨tn, t, ht17, ht22, htn60, htx⟩, ⟨lN, hl20, hl26, hlN80, hlx⟩, ⟨he10, he11, hep2, hep3⟩, ⟨hwd, hwa⟩⟩ := id hCR
  have hR : RP (μ 0) (ν 1) := hR
  have hk15 : μ 0 15 1 = nI kr := hk15
  have hcn : μ 0 15 2 = nI cn := hcn
  have hHR : HR g μ kr cn (ν 5) := hHR
  have hm9 : μ 0 14 9 = nI sv := hm9
  have hsn : sv = 1 → VG (ν 3) ∧ RP (μ 2) (ν 3) := hsn
  have ht22 : μ 0 22 1 = nI tn := ht22
  have htx : ∀ j, j < tn → ν 8 j = nI (t j) ∧ μ 0 23 j = nI (t j) ∧ t j < 128 := htx
  have hl26 : μ 0 26 1 = nI lN := hl26
  have hlx : ∀ j, j < lN → ν 9 j = μ 0 27 j ∧ CH (ν 9 j) := hlx
  refine lv_aload_n hxe hcd dL_law_1308 rfl (lv_at hl 1 rfl) ?_
  refine lv_aload_n hxe hcd dL_law_1309 rfl (lv_at hl 0 rfl) ?_
  refine lv_iload hxe hcd dL_law_1310 (lv_at hl 5 rfl) ?_
  refine lv_iconst (v := (nI 1)) hxe hcd dL_law_1312 (by decide) ?_
  refine n_iadd S (a := i) (b := 1) dL_law_1313 ?_
  refine l_sc S hU hX hbl hbA (j := (i + 1)) (by omega) hL31 dL_law_1314 ?_
  refine lv_aload_n hxe hcd dL_law_1315 rfl (lv_at hl 3 rfl) ?_
  refine l_J hZ S hU (As := [.ref (A (0, 14)), .int (xs (i + 1)), .ref aj]) (rest := []) (t_L_signChanges l hl0 hZ hZX hNC aj f A g μ H.size hVG hR (xs (i + 1))) lk_L_signChanges hl.1 rfl rfl (Nat.le_of_ble_eq_true rfl) ⟨(Nat.le_of_ble_eq_true rfl), (Nat.le_of_ble_eq_true rfl)⟩ ⟨hc, hs⟩ dL_law_1316 (fun r u H locs hC hU => ?_)
  refine lv_istore (lv' := [(6, .int r), (0, .ref b), (1, .ref (A (0, 14))), (2, .ref (B 0)), (3, .ref aj), (4, .ref ad), (5, .int (nI i))]) hxe hcd dL_law_1319 hl (by decide) rfl (fun ls hl => ?_)
  refine lv_aload_n hxe hcd dL_law_1321 rfl (lv_at hl 3 rfl) ?_
  refine lv_aload_n hxe hcd dL_law_1322 rfl (lv_at hl 1 rfl) ?_
  refine lv_iload hxe hcd dL_law_1323 (lv_at hl 6 rfl) ?_
  refine lv_iconst (v := (nI 1)) hxe hcd dL_law_1325 (by decide) ?_
  refine n_iadd S (a := i) (b := 1) dL_law_1326 ?_
  refine l_sc S hU hX hbl hbA (j := (i + 1)) (by omega) hL31 dL_law_1327 ?_
  refine l_Mi hZ S hU (As := [.int (xs (i + 1))]) (rest := []) (t_X10_signChanges l hZ B ν H.size (lnV (ν 1)) hVG.2.2.1 hVG.1.1 hVG.1.2 (psV (ν 1)) hVG.2.2.2.2.2.2.1 (xs (i + 1))) k_L_217 (l_rm hU) hl.1 rfl rfl (Nat.le_of_ble_eq_true rfl) ⟨(Nat.le_of_ble_eq_true rfl), (Nat.le_of_ble_eq_true rfl)⟩ ⟨hc, hs⟩ dL_law_1328 (fun rb ω H locs hM hU => ?_)
  obtain ⟨hCR2, hA2, hth, hres⟩ := j_signChanges hCR hkr hc8 hch hHR  (v := ν 1) rfl hC hM
  refine lv_istore (lv' := [(7, .int rb), (6, .int r), (0, .ref b), (1, .ref (A (0, 14))), (2, .ref (B 0)), (3, .ref aj), (4, .ref ad), (5, .int (nI i))]) hxe hcd dL_law_1331 hl (by decide) rfl (fun ls hl => ?_)
  refine lv_aload_n hxe hcd dL_law_1333 rfl (lv_at hl 4 rfl) ?_
  refine l_T hZ S hU (As := []) (rest := []) (t_X10_thrown l hZ B ω H.size) k_L_158 (l_rm hU) hl.1 rfl rfl (Nat.le_of_ble_eq_true rfl) ⟨(Nat.le_of_ble_eq_true rfl), (Nat.le_of_ble_eq_true rfl)⟩ ⟨hc, hs⟩ dL_law_1334 (fun r3 H locs h3 hU => ?_)
  have h3 := h3.symm
  subst h3
  refine r_as hth ?_
  refine lv_iload hxe hcd dL_law_1337 (lv_at hl 1 rfl) ?_
  refine lv_icmp_eq (tgt := 1344) hxe hcd dL_law_1339 (by decide) (fun _ => ?_) (fun h => absurd rfl h)
  refine lv_iload hxe hcd dL_law_1344 (lv_at hl 1 rfl) ?_
  refine lv_if_ne (tgt := 1361) hxe hcd dL_law_1346 (by decide) (fun hk => ?_) (fun hk => ?_)
  · refine lv_goto (tgt := 2709) hxe hcd dL_law_1361 (by decide) ?_
    exact kk u.1 ω u.2 fd H locs ls hU hCR2 hA2 (lv_sub hl [2, 3, 4, 5, 6, 7] rfl)
  · have hres := hres hk
    refine lv_aload_n hxe hcd dL_law_1349 rfl (lv_at hl 5 rfl) ?_
    refine lv_iconst (v := (nI 0)) hxe hcd dL_law_1350 (by decide) ?_
    refine l_jld S hU dL_law_1351 ?_
    refine lv_iload hxe hcd dL_law_1352 (lv_at hl 0 rfl) ?_
    refine lv_i2l (v := rb.toInt64) hxe hcd dL_law_1354 rfl ?_
    refine W.lcmp hxe hcd dL_law_1355 ?_
    refine r_as (y := 0) (by rw [hres]; exact lgc_self _) ?_
    refine lv_if_eq (tgt := 1361) hxe hcd dL_law_1356 (by decide) (fun _ => ?_) (fun h => absurd rfl h)
    refine lv_goto (tgt := 2709) hxe hcd dL_law_1361 (by decide) ?_
    exact kk u.1 ω u.2 fd H locs ls hU hCR2 hA2 (lv_sub hl [2, 3, 4, 5, 6, 7] rfl)
set_option maxHeartbeats 4000000 in
set_option maxRecDepth 100000 in
theorem c_18 (l : Launch) (hl0 : l.stackTraces = false) {Z : ZT} (hZ : zOK Z) (hZX : ZX Z) (hNC : XNC Z) {wd : WDT} (hw : ZW Z wd) {p : Program} {e : Env} {s : State} {m : MethodId} {below : List Frame} {meth : Method} {c : Code} {b : Nat} (S : CallFix p m c cL_law 9 s #[Value.ref b] GT RL) {L : Nat} {xs : Nat → Int32} (hX : va_X b L xs s s.heap) (hbl : b < s.heap.size) (hL31 : L < 2 ^ 31) {A0 : Nat → Prop} (hbA : ¬ A0 b) {aj ad : Nat} {B : Nat → Nat} {Q : State → Prop} {g : Nat → Bool} {A : Nat × Nat → Nat} {μ : CM} {ν : MM} {f : Nat → Int64} {fd : Nat → UInt64} {H : Heap} {locs : List Loc} {ls : Array Slot} {i cells slots : Nat} (hU : wW Z (LW Z aj ad B (g, A, μ) ν f fd) A0 s H locs) (hCR : CR (g, A, μ) ν) (hi : i + 4 < L) (hl : lv_has ls 9 [(0, .ref b), (1, .ref (A (0, 14))), (2, .ref (B 0)), (3, .ref aj), (4, .ref ad), (5, .int (nI i))]) (hc : cells + 15 ≤ 603072) (hs : slots + 1376 ≤ 7190633)
  (kk : ∀ (v' : GM) (ν' : MM) (f' : Nat → Int64) (fd' : Nat → UInt64) (H' : Heap) (locs' : List Loc) (ls' : Array Slot), wW Z (LW Z aj ad B v' ν' f' fd') A0 s H' locs' → CR v' ν' → v'.2.1 (0, 14) = A (0, 14) → lv_has ls' 9 [(0, .ref b), (1, .ref (A (0, 14))), (2, .ref (B 0)), (3, .ref aj), (4, .ref ad), (5, .int (nI i))] → W p l e room_1 s m #[Value.ref b] below meth c H' locs' (cells + 15) (slots + 1376) Q (F0 m 2709 ls' [])) : W p l e room_1 s m #[Value.ref b] below meth c H locs cells slots Q (F0 m 1364 ls []) := by
  have hxe := S.1
  have hcd := S.2.1
  obtain ⟨hVG, hR, ⟨kr, cn, hkr, hc8, hk15, hcn, hch, hHR⟩, ⟨sv, hs4, hsv1, hm9, hsn⟩, ⟨tn, t, ht17, ht22, htn60, htx⟩, ⟨lN, hl20, hl26, hlN80, hlx⟩, ⟨he10, he11, hep2, hep3⟩, ⟨hwd, hwa⟩⟩ := id hCR
  have hR : RP (μ 0) (ν 1) := hR
  have hk15 : μ 0 15 1 = nI kr := hk15
  have hcn : μ 0 15 2 = nI cn := hcn
  have hHR : HR g μ kr cn (ν 5) := hHR
  have hm9 : μ 0 14 9 = nI sv := hm9
  have hsn : sv = 1 → VG (ν 3) ∧ RP (μ 2) (ν 3) := hsn
  have ht22 : μ 0 22 1 = nI tn := ht22
  have htx : ∀ j, j < tn → ν 8 j = nI (t j) ∧ μ 0 23 j = nI (t j) ∧ t j < 128 := htx
  have hl26 : μ 0 26 1 = nI lN := hl26
  have hlx : ∀ j, j < lN → ν 9 j = μ 0 27 j ∧ CH (ν 9 j) := hlx
  refine lv_aload_n hxe hcd dL_law_1364 rfl (lv_at hl 1 rfl) ?_
  refine l_C (mc := 15) (ms := 1376) hZ S hU (As := []) (rest := []) (fun _ _ h => h) (t_X9_strongestSong l hl0 hZ hZX A g μ H.size hVG hR) k_L_218 (l_rc hU) hl.1 rfl rfl (Nat.le_of_ble_eq_true rfl) ⟨(Nat.le_of_ble_eq_true rfl), (Nat.le_of_ble_eq_true rfl)⟩ ⟨hc, hs⟩ dL_law_1365 (fun r u H locs hC hU => ?_)
  refine lv_aload_n hxe hcd dL_law_1368 rfl (lv_at hl 2 rfl) ?_
  refine l_Mi hZ S hU (As := []) (rest := [.int r]) (t_X10_strongestSong l hZ B ν H.size (lnV (ν 1)) hVG.2.2.1 hVG.1.1 hVG.1.2 (psV (ν 1)) hVG.2.2.2.2.2.2.1) k_L_221 (l_rm hU) hl.1 rfl rfl (Nat.le_of_ble_eq_true rfl) ⟨(Nat.le_of_ble_eq_true rfl), (Nat.le_of_ble_eq_true rfl)⟩ ⟨hc, hs⟩ dL_law_1369 (fun rb ω H locs hM hU => ?_)
  obtain ⟨hCR2, hA2, hrb⟩ := j_strongestSong hCR (v := ν 1) rfl hC hM
  subst hrb
  refine lv_icmp_eq (tgt := 2709) hxe hcd dL_law_1372 (by decide) (fun _ => ?_) (fun h => absurd rfl h)
  exact kk u ω f fd H locs ls hU hCR2 hA2 (lv_sub hl [0, 1, 2, 3, 4, 5] rfl)
theorem lk_L_addTank : lkW RL 222 yL_addTank cL_addTank 4 [(0, 9, 12, 13), (0, 9, 15, 15)] 3 := ⟨g_896, g_897, g_66, g_898, ⟨by decide +kernel, by decide +kernel, by decide +kernel⟩⟩
set_option maxHeartbeats 4000000 in
set_option maxRecDepth 100000 in
theorem c_19 (l : Launch) (hl0 : l.stackTraces = false) {Z : ZT} (hZ : zOK Z) (hZX : ZX Z) (hNC : XNC Z) {wd : WDT} (hw : ZW Z wd) {p : Program} {e : Env} {s : State} {m : MethodId} {below : List Frame} {meth : Method} {c : Code} {b : Nat} (S : CallFix p m c cL_law 9 s #[Value.ref b] GT RL) {L : Nat} {xs : Nat → Int32} (hX : va_X b L xs s s.heap) (hbl : b < s.heap.size) (hL31 : L < 2 ^ 31) {A0 : Nat → Prop} (hbA : ¬ A0 b) {aj ad : Nat} {B : Nat → Nat} {Q : State → Prop} {g : Nat → Bool} {A : Nat × Nat → Nat} {μ : CM} {ν : MM} {f : Nat → Int64} {fd : Nat → UInt64} {H : Heap} {locs : List Loc} {ls : Array Slot} {i cells slots : Nat} (hU : wW Z (LW Z aj ad B (g, A, μ) ν f fd) A0 s H locs) (hCR : CR (g, A, μ) ν) (hi : i + 4 < L) (hl : lv_has ls 9 [(0, .ref b), (1, .ref (A (0, 14))), (2, .ref (B 0)), (3, .ref aj), (4, .ref ad), (5, .int (nI i))]) (hc : cells + 15 ≤ 603072) (hs : slots + 1376 ≤ 7190633)
  (kk : ∀ (v' : GM) (ν' : MM) (f' : Nat → Int64) (fd' : Nat → UInt64) (H' : Heap) (locs' : List Loc) (ls' : Array Slot), wW Z (LW Z aj ad B v' ν' f' fd') A0 s H' locs' → CR v' ν' → v'.2.1 (0, 14) = A (0, 14) → lv_has ls' 9 [(0, .ref b), (1, .ref (A (0, 14))), (2, .ref (B 0)), (3, .ref aj), (4, .ref ad), (5, .int (nI i))] → W p l e room_1 s m #[Value.ref b] below meth c H' locs' (cells + 15) (slots + 1376) Q (F0 m 2709 ls' [])) : W p l e room_1 s m #[Value.ref b] below meth c H locs cells slots Q (F0 m 1377 ls []) := by
  have hxe := S.1
  have hcd := S.2.1
  obtain ⟨hVG, hR, ⟨kr, cn, hkr, hc8, hk15, hcn, hch, hHR⟩, ⟨sv, hs4, hsv1, hm9, hsn⟩, ⟨tn, t, ht17, ht22, htn60, htx⟩, ⟨lN, hl20, hl26, hlN80, hlx⟩, ⟨he10, he11, hep2, hep3⟩, ⟨hwd, hwa⟩⟩ := id hCR
  have hR : RP (μ 0) (ν 1) := hR
  have hk15 : μ 0 15 1 = nI kr := hk15
  have hcn : μ 0 15 2 = nI cn := hcn
  have hHR : HR g μ kr cn (ν 5) := hHR
  have hm9 : μ 0 14 9 = nI sv := hm9
  have hsn : sv = 1 → VG (ν 3) ∧ RP (μ 2) (ν 3) := hsn
  have ht22 : μ 0 22 1 = nI tn := ht22
  have htx : ∀ j, j < tn → ν 8 j = nI (t j) ∧ μ 0 23 j = nI (t j) ∧ t j < 128 := htx
  have hl26 : μ 0 26 1 = nI lN := hl26
  have hlx : ∀ j, j < lN → ν 9 j = μ 0 27 j ∧ CH (ν 9 j) := hlx
  refine lv_aload_n hxe hcd dL_law_1377 rfl (lv_at hl 1 rfl) ?_
  refine lv_aload_n hxe hcd dL_law_1378 rfl (lv_at hl 0 rfl) ?_
  refine lv_iload hxe hcd dL_law_1379 (lv_at hl 5 rfl) ?_
  refine lv_iconst (v := (nI 1)) hxe hcd dL_law_1381 (by decide) ?_
  refine n_iadd S (a := i) (b := 1) dL_law_1382 ?_
  refine l_sc S hU hX hbl hbA (j := (i + 1)) (by omega) hL31 dL_law_1383 ?_
  refine lv_aload_n hxe hcd dL_law_1384 rfl (lv_at hl 3 rfl) ?_
  refine l_J hZ S hU (As := [.ref (A (0, 14)), .int (xs (i + 1)), .ref aj]) (rest := []) (t_L_addTank l hl0 hZ hZX hNC aj f A g μ H.size hVG hR hkr hk15 hcn hc8 (xs (i + 1))) lk_L_addTank hl.1 rfl rfl (Nat.le_of_ble_eq_true rfl) ⟨(Nat.le_of_ble_eq_true rfl), (Nat.le_of_ble_eq_true rfl)⟩ ⟨hc, hs⟩ dL_law_1385 (fun r u H locs hC hU => ?_)
  refine lv_istore (lv' := [(6, .int r), (0, .ref b), (1, .ref (A (0, 14))), (2, .ref (B 0)), (3, .ref aj), (4, .ref ad), (5, .int (nI i))]) hxe hcd dL_law_1388 hl (by decide) rfl (fun ls hl => ?_)
  refine lv_aload_n hxe hcd dL_law_1390 rfl (lv_at hl 3 rfl) ?_
  refine lv_aload_n hxe hcd dL_law_1391 rfl (lv_at hl 1 rfl) ?_
  refine lv_iload hxe hcd dL_law_1392 (lv_at hl 6 rfl) ?_
  refine lv_iconst (v := (nI 1)) hxe hcd dL_law_1394 (by decide) ?_
  refine n_iadd S (a := i) (b := 1) dL_law_1395 ?_
  refine l_sc S hU hX hbl hbA (j := (i + 1)) (by omega) hL31 dL_law_1396 ?_
  refine l_Mi hZ S hU (As := [.int (xs (i + 1))]) (rest := []) (t_X10_addTank l hZ B ν H.size hVG.2.1.1 hVG.2.1.2 (xs (i + 1)) hch hc8) k_L_224 (l_rm hU) hl.1 rfl rfl (Nat.le_of_ble_eq_true rfl) ⟨(Nat.le_of_ble_eq_true rfl), (Nat.le_of_ble_eq_true rfl)⟩ ⟨hc, hs⟩ dL_law_1397 (fun rb ω H locs hM hU => ?_)
  obtain ⟨hCR2, hA2, hth, hres⟩ := j_addTank hCR hkr hc8 hch hHR  (v := ν 1) rfl hC hM
  refine lv_istore (lv' := [(7, .int rb), (6, .int r), (0, .ref b), (1, .ref (A (0, 14))), (2, .ref (B 0)), (3, .ref aj), (4, .ref ad), (5, .int (nI i))]) hxe hcd dL_law_1400 hl (by decide) rfl (fun ls hl => ?_)
  refine lv_aload_n hxe hcd dL_law_1402 rfl (lv_at hl 4 rfl) ?_
  refine l_T hZ S hU (As := []) (rest := []) (t_X10_thrown l hZ B ω H.size) k_L_158 (l_rm hU) hl.1 rfl rfl (Nat.le_of_ble_eq_true rfl) ⟨(Nat.le_of_ble_eq_true rfl), (Nat.le_of_ble_eq_true rfl)⟩ ⟨hc, hs⟩ dL_law_1403 (fun r3 H locs h3 hU => ?_)
  have h3 := h3.symm
  subst h3
  refine r_as hth ?_
  refine lv_iload hxe hcd dL_law_1406 (lv_at hl 1 rfl) ?_
  refine lv_icmp_eq (tgt := 1413) hxe hcd dL_law_1408 (by decide) (fun _ => ?_) (fun h => absurd rfl h)
  refine lv_iload hxe hcd dL_law_1413 (lv_at hl 1 rfl) ?_
  refine lv_if_ne (tgt := 1430) hxe hcd dL_law_1415 (by decide) (fun hk => ?_) (fun hk => ?_)
  · refine lv_goto (tgt := 2709) hxe hcd dL_law_1430 (by decide) ?_
    exact kk u.1 ω u.2 fd H locs ls hU hCR2 hA2 (lv_sub hl [2, 3, 4, 5, 6, 7] rfl)
  · have hres := hres hk
    refine lv_aload_n hxe hcd dL_law_1418 rfl (lv_at hl 5 rfl) ?_
    refine lv_iconst (v := (nI 0)) hxe hcd dL_law_1419 (by decide) ?_
    refine l_jld S hU dL_law_1420 ?_
    refine lv_iload hxe hcd dL_law_1421 (lv_at hl 0 rfl) ?_
    refine lv_i2l (v := rb.toInt64) hxe hcd dL_law_1423 rfl ?_
    refine W.lcmp hxe hcd dL_law_1424 ?_
    refine r_as (y := 0) (by rw [hres]; exact lgc_self _) ?_
    refine lv_if_eq (tgt := 1430) hxe hcd dL_law_1425 (by decide) (fun _ => ?_) (fun h => absurd rfl h)
    refine lv_goto (tgt := 2709) hxe hcd dL_law_1430 (by decide) ?_
    exact kk u.1 ω u.2 fd H locs ls hU hCR2 hA2 (lv_sub hl [2, 3, 4, 5, 6, 7] rfl)
theorem lk_L_setTuning : lkW RL 225 yL_setTuning cL_setTuning 5 [(0, 10, 13, 21), (0, 10, 17, 13)] 4 := ⟨g_912, g_913, g_66, g_914, ⟨by decide +kernel, by decide +kernel, by decide +kernel⟩⟩
set_option maxHeartbeats 4000000 in
set_option maxRecDepth 100000 in
theorem c_20 (l : Launch) (hl0 : l.stackTraces = false) {Z : ZT} (hZ : zOK Z) (hZX : ZX Z) (hNC : XNC Z) {wd : WDT} (hw : ZW Z wd) {p : Program} {e : Env} {s : State} {m : MethodId} {below : List Frame} {meth : Method} {c : Code} {b : Nat} (S : CallFix p m c cL_law 9 s #[Value.ref b] GT RL) {L : Nat} {xs : Nat → Int32} (hX : va_X b L xs s s.heap) (hbl : b < s.heap.size) (hL31 : L < 2 ^ 31) {A0 : Nat → Prop} (hbA : ¬ A0 b) {aj ad : Nat} {B : Nat → Nat} {Q : State → Prop} {g : Nat → Bool} {A : Nat × Nat → Nat} {μ : CM} {ν : MM} {f : Nat → Int64} {fd : Nat → UInt64} {H : Heap} {locs : List Loc} {ls : Array Slot} {i cells slots : Nat} (hU : wW Z (LW Z aj ad B (g, A, μ) ν f fd) A0 s H locs) (hCR : CR (g, A, μ) ν) (hi : i + 4 < L) (hl : lv_has ls 9 [(0, .ref b), (1, .ref (A (0, 14))), (2, .ref (B 0)), (3, .ref aj), (4, .ref ad), (5, .int (nI i))]) (hc : cells + 15 ≤ 603072) (hs : slots + 1376 ≤ 7190633)
  (kk : ∀ (v' : GM) (ν' : MM) (f' : Nat → Int64) (fd' : Nat → UInt64) (H' : Heap) (locs' : List Loc) (ls' : Array Slot), wW Z (LW Z aj ad B v' ν' f' fd') A0 s H' locs' → CR v' ν' → v'.2.1 (0, 14) = A (0, 14) → lv_has ls' 9 [(0, .ref b), (1, .ref (A (0, 14))), (2, .ref (B 0)), (3, .ref aj), (4, .ref ad), (5, .int (nI i))] → W p l e room_1 s m #[Value.ref b] below meth c H' locs' (cells + 15) (slots + 1376) Q (F0 m 2709 ls' [])) : W p l e room_1 s m #[Value.ref b] below meth c H locs cells slots Q (F0 m 1433 ls []) := by
  have hxe := S.1
  have hcd := S.2.1
  obtain ⟨hVG, hR, ⟨kr, cn, hkr, hc8, hk15, hcn, hch, hHR⟩, ⟨sv, hs4, hsv1, hm9, hsn⟩, ⟨tn, t, ht17, ht22, htn60, htx⟩, ⟨lN, hl20, hl26, hlN80, hlx⟩, ⟨he10, he11, hep2, hep3⟩, ⟨hwd, hwa⟩⟩ := id hCR
  have hR : RP (μ 0) (ν 1) := hR
  have hk15 : μ 0 15 1 = nI kr := hk15
  have hcn : μ 0 15 2 = nI cn := hcn
  have hHR : HR g μ kr cn (ν 5) := hHR
  have hm9 : μ 0 14 9 = nI sv := hm9
  have hsn : sv = 1 → VG (ν 3) ∧ RP (μ 2) (ν 3) := hsn
  have ht22 : μ 0 22 1 = nI tn := ht22
  have htx : ∀ j, j < tn → ν 8 j = nI (t j) ∧ μ 0 23 j = nI (t j) ∧ t j < 128 := htx
  have hl26 : μ 0 26 1 = nI lN := hl26
  have hlx : ∀ j, j < lN → ν 9 j = μ 0 27 j ∧ CH (ν 9 j) := hlx
  refine lv_aload_n hxe hcd dL_law_1433 rfl (lv_at hl 1 rfl) ?_
  refine lv_aload_n hxe hcd dL_law_1434 rfl (lv_at hl 0 rfl) ?_
  refine lv_iload hxe hcd dL_law_1435 (lv_at hl 5 rfl) ?_
  refine lv_iconst (v := (nI 1)) hxe hcd dL_law_1437 (by decide) ?_
  refine n_iadd S (a := i) (b := 1) dL_law_1438 ?_
  refine l_sc S hU hX hbl hbA (j := (i + 1)) (by omega) hL31 dL_law_1439 ?_
  refine lv_aload_n hxe hcd dL_law_1440 rfl (lv_at hl 0 rfl) ?_
  refine lv_iload hxe hcd dL_law_1441 (lv_at hl 5 rfl) ?_
  refine lv_iconst (v := (nI 2)) hxe hcd dL_law_1443 (by decide) ?_
  refine n_iadd S (a := i) (b := 2) dL_law_1444 ?_
  refine l_sc S hU hX hbl hbA (j := (i + 2)) (by omega) hL31 dL_law_1445 ?_
  refine lv_aload_n hxe hcd dL_law_1446 rfl (lv_at hl 3 rfl) ?_
  refine l_J hZ S hU (As := [.ref (A (0, 14)), .int (xs (i + 1)), .int (xs (i + 2)), .ref aj]) (rest := []) (t_L_setTuning l hl0 hZ hZX hNC aj f A g μ H.size hVG hR hkr hk15 hcn hc8 (xs (i + 1)) (xs (i + 2))) lk_L_setTuning hl.1 rfl rfl (Nat.le_of_ble_eq_true rfl) ⟨(Nat.le_of_ble_eq_true rfl), (Nat.le_of_ble_eq_true rfl)⟩ ⟨hc, hs⟩ dL_law_1447 (fun r u H locs hC hU => ?_)
  refine lv_istore (lv' := [(6, .int r), (0, .ref b), (1, .ref (A (0, 14))), (2, .ref (B 0)), (3, .ref aj), (4, .ref ad), (5, .int (nI i))]) hxe hcd dL_law_1450 hl (by decide) rfl (fun ls hl => ?_)
  refine lv_aload_n hxe hcd dL_law_1452 rfl (lv_at hl 3 rfl) ?_
  refine lv_aload_n hxe hcd dL_law_1453 rfl (lv_at hl 1 rfl) ?_
  refine lv_iload hxe hcd dL_law_1454 (lv_at hl 6 rfl) ?_
  refine lv_iconst (v := (nI 1)) hxe hcd dL_law_1456 (by decide) ?_
  refine n_iadd S (a := i) (b := 1) dL_law_1457 ?_
  refine l_sc S hU hX hbl hbA (j := (i + 1)) (by omega) hL31 dL_law_1458 ?_
  refine lv_aload_n hxe hcd dL_law_1459 rfl (lv_at hl 1 rfl) ?_
  refine lv_iload hxe hcd dL_law_1460 (lv_at hl 6 rfl) ?_
  refine lv_iconst (v := (nI 2)) hxe hcd dL_law_1462 (by decide) ?_
  refine n_iadd S (a := i) (b := 2) dL_law_1463 ?_
  refine l_sc S hU hX hbl hbA (j := (i + 2)) (by omega) hL31 dL_law_1464 ?_
  refine l_Mi hZ S hU (As := [.int (xs (i + 1)), .int (xs (i + 2))]) (rest := []) (t_X10_setTuning l hZ B ν H.size hVG.2.1.1 hVG.2.1.2 (xs (i + 1)) (xs (i + 2)) hch hc8) k_L_227 (l_rm hU) hl.1 rfl rfl (Nat.le_of_ble_eq_true rfl) ⟨(Nat.le_of_ble_eq_true rfl), (Nat.le_of_ble_eq_true rfl)⟩ ⟨hc, hs⟩ dL_law_1465 (fun rb ω H locs hM hU => ?_)
  obtain ⟨hCR2, hA2, hth, hres⟩ := j_setTuning hCR hkr hc8 hch hHR  (v := ν 1) rfl hC hM
  refine lv_istore (lv' := [(7, .int rb), (6, .int r), (0, .ref b), (1, .ref (A (0, 14))), (2, .ref (B 0)), (3, .ref aj), (4, .ref ad), (5, .int (nI i))]) hxe hcd dL_law_1468 hl (by decide) rfl (fun ls hl => ?_)
  refine lv_aload_n hxe hcd dL_law_1470 rfl (lv_at hl 4 rfl) ?_
  refine l_T hZ S hU (As := []) (rest := []) (t_X10_thrown l hZ B ω H.size) k_L_158 (l_rm hU) hl.1 rfl rfl (Nat.le_of_ble_eq_true rfl) ⟨(Nat.le_of_ble_eq_true rfl), (Nat.le_of_ble_eq_true rfl)⟩ ⟨hc, hs⟩ dL_law_1471 (fun r3 H locs h3 hU => ?_)
  have h3 := h3.symm
  subst h3
  refine r_as hth ?_
  refine lv_iload hxe hcd dL_law_1474 (lv_at hl 1 rfl) ?_
  refine lv_icmp_eq (tgt := 1481) hxe hcd dL_law_1476 (by decide) (fun _ => ?_) (fun h => absurd rfl h)
  refine lv_iload hxe hcd dL_law_1481 (lv_at hl 1 rfl) ?_
  refine lv_if_ne (tgt := 1498) hxe hcd dL_law_1483 (by decide) (fun hk => ?_) (fun hk => ?_)
  · refine lv_goto (tgt := 2709) hxe hcd dL_law_1498 (by decide) ?_
    exact kk u.1 ω u.2 fd H locs ls hU hCR2 hA2 (lv_sub hl [2, 3, 4, 5, 6, 7] rfl)
  · have hres := hres hk
    refine lv_aload_n hxe hcd dL_law_1486 rfl (lv_at hl 5 rfl) ?_
    refine lv_iconst (v := (nI 0)) hxe hcd dL_law_1487 (by decide) ?_
    refine l_jld S hU dL_law_1488 ?_
    refine lv_iload hxe hcd dL_law_1489 (lv_at hl 0 rfl) ?_
    refine lv_i2l (v := rb.toInt64) hxe hcd dL_law_1491 rfl ?_
    refine W.lcmp hxe hcd dL_law_1492 ?_
    refine r_as (y := 0) (by rw [hres]; exact lgc_self _) ?_
    refine lv_if_eq (tgt := 1498) hxe hcd dL_law_1493 (by decide) (fun _ => ?_) (fun h => absurd rfl h)
    refine lv_goto (tgt := 2709) hxe hcd dL_law_1498 (by decide) ?_
    exact kk u.1 ω u.2 fd H locs ls hU hCR2 hA2 (lv_sub hl [2, 3, 4, 5, 6, 7] rfl)
theorem lk_L_pour : lkW RL 228 yL_pour cL_pour 4 [(0, 9, 12, 21), (0, 9, 15, 45)] 3 := ⟨g_931, g_932, g_66, g_933, ⟨by decide +kernel, by decide +kernel, by decide +kernel⟩⟩
set_option maxHeartbeats 4000000 in
set_option maxRecDepth 100000 in
theorem c_21 (l : Launch) (hl0 : l.stackTraces = false) {Z : ZT} (hZ : zOK Z) (hZX : ZX Z) (hNC : XNC Z) {wd : WDT} (hw : ZW Z wd) {p : Program} {e : Env} {s : State} {m : MethodId} {below : List Frame} {meth : Method} {c : Code} {b : Nat} (S : CallFix p m c cL_law 9 s #[Value.ref b] GT RL) {L : Nat} {xs : Nat → Int32} (hX : va_X b L xs s s.heap) (hbl : b < s.heap.size) (hL31 : L < 2 ^ 31) {A0 : Nat → Prop} (hbA : ¬ A0 b) {aj ad : Nat} {B : Nat → Nat} {Q : State → Prop} {g : Nat → Bool} {A : Nat × Nat → Nat} {μ : CM} {ν : MM} {f : Nat → Int64} {fd : Nat → UInt64} {H : Heap} {locs : List Loc} {ls : Array Slot} {i cells slots : Nat} (hU : wW Z (LW Z aj ad B (g, A, μ) ν f fd) A0 s H locs) (hCR : CR (g, A, μ) ν) (hi : i + 4 < L) (hl : lv_has ls 9 [(0, .ref b), (1, .ref (A (0, 14))), (2, .ref (B 0)), (3, .ref aj), (4, .ref ad), (5, .int (nI i))]) (hc : cells + 15 ≤ 603072) (hs : slots + 1376 ≤ 7190633)
  (kk : ∀ (v' : GM) (ν' : MM) (f' : Nat → Int64) (fd' : Nat → UInt64) (H' : Heap) (locs' : List Loc) (ls' : Array Slot), wW Z (LW Z aj ad B v' ν' f' fd') A0 s H' locs' → CR v' ν' → v'.2.1 (0, 14) = A (0, 14) → lv_has ls' 9 [(0, .ref b), (1, .ref (A (0, 14))), (2, .ref (B 0)), (3, .ref aj), (4, .ref ad), (5, .int (nI i))] → W p l e room_1 s m #[Value.ref b] below meth c H' locs' (cells + 15) (slots + 1376) Q (F0 m 2709 ls' [])) : W p l e room_1 s m #[Value.ref b] below meth c H locs cells slots Q (F0 m 1501 ls []) := by
  have hxe := S.1
  have hcd := S.2.1
  obtain ⟨hVG, hR, ⟨kr, cn, hkr, hc8, hk15, hcn, hch, hHR⟩, ⟨sv, hs4, hsv1, hm9, hsn⟩, ⟨tn, t, ht17, ht22, htn60, htx⟩, ⟨lN, hl20, hl26, hlN80, hlx⟩, ⟨he10, he11, hep2, hep3⟩, ⟨hwd, hwa⟩⟩ := id hCR
  have hR : RP (μ 0) (ν 1) := hR
  have hk15 : μ 0 15 1 = nI kr := hk15
  have hcn : μ 0 15 2 = nI cn := hcn
  have hHR : HR g μ kr cn (ν 5) := hHR
  have hm9 : μ 0 14 9 = nI sv := hm9
  have hsn : sv = 1 → VG (ν 3) ∧ RP (μ 2) (ν 3) := hsn
  have ht22 : μ 0 22 1 = nI tn := ht22
  have htx : ∀ j, j < tn → ν 8 j = nI (t j) ∧ μ 0 23 j = nI (t j) ∧ t j < 128 := htx
  have hl26 : μ 0 26 1 = nI lN := hl26
  have hlx : ∀ j, j < lN → ν 9 j = μ 0 27 j ∧ CH (ν 9 j) := hlx
  refine lv_aload_n hxe hcd dL_law_1501 rfl (lv_at hl 1 rfl) ?_
  refine lv_aload_n hxe hcd dL_law_1502 rfl (lv_at hl 0 rfl) ?_
  refine lv_iload hxe hcd dL_law_1503 (lv_at hl 5 rfl) ?_
  refine lv_iconst (v := (nI 1)) hxe hcd dL_law_1505 (by decide) ?_
  refine n_iadd S (a := i) (b := 1) dL_law_1506 ?_
  refine l_sc S hU hX hbl hbA (j := (i + 1)) (by omega) hL31 dL_law_1507 ?_
  refine lv_aload_n hxe hcd dL_law_1508 rfl (lv_at hl 3 rfl) ?_
  refine l_J hZ S hU (As := [.ref (A (0, 14)), .int (xs (i + 1)), .ref aj]) (rest := []) (t_L_pour l hl0 hZ hZX hNC aj f A g μ H.size hVG hR hkr hk15 hcn hc8 (xs (i + 1))) lk_L_pour hl.1 rfl rfl (Nat.le_of_ble_eq_true rfl) ⟨(Nat.le_of_ble_eq_true rfl), (Nat.le_of_ble_eq_true rfl)⟩ ⟨hc, hs⟩ dL_law_1509 (fun r u H locs hC hU => ?_)
  refine lv_istore (lv' := [(6, .int r), (0, .ref b), (1, .ref (A (0, 14))), (2, .ref (B 0)), (3, .ref aj), (4, .ref ad), (5, .int (nI i))]) hxe hcd dL_law_1512 hl (by decide) rfl (fun ls hl => ?_)
  refine lv_aload_n hxe hcd dL_law_1514 rfl (lv_at hl 3 rfl) ?_
  refine lv_aload_n hxe hcd dL_law_1515 rfl (lv_at hl 1 rfl) ?_
  refine lv_iload hxe hcd dL_law_1516 (lv_at hl 6 rfl) ?_
  refine lv_iconst (v := (nI 1)) hxe hcd dL_law_1518 (by decide) ?_
  refine n_iadd S (a := i) (b := 1) dL_law_1519 ?_
  refine l_sc S hU hX hbl hbA (j := (i + 1)) (by omega) hL31 dL_law_1520 ?_
  refine l_Mi hZ S hU (As := [.int (xs (i + 1))]) (rest := []) (t_X10_pour l hZ B ν H.size (lnV (ν 1)) hVG.2.2.1 (nnV (ν 1)) hVG.2.2.2.1 hVG.1.1 hVG.1.2 (psV (ν 1)) hVG.2.2.2.2.2.2.1 hVG.2.1.1 hVG.2.1.2 (cpN (ν 1)) (lvN (ν 1)) hVG.2.2.2.2.2.2.2.1 (xs (i + 1)) hch hc8) k_L_230 (l_rm hU) hl.1 rfl rfl (Nat.le_of_ble_eq_true rfl) ⟨(Nat.le_of_ble_eq_true rfl), (Nat.le_of_ble_eq_true rfl)⟩ ⟨hc, hs⟩ dL_law_1521 (fun rb ω H locs hM hU => ?_)
  obtain ⟨hCR2, hA2, hth, hres⟩ := j_pour hCR hkr hc8 hch hHR  (v := ν 1) rfl hC hM
  refine lv_istore (lv' := [(7, .int rb), (6, .int r), (0, .ref b), (1, .ref (A (0, 14))), (2, .ref (B 0)), (3, .ref aj), (4, .ref ad), (5, .int (nI i))]) hxe hcd dL_law_1524 hl (by decide) rfl (fun ls hl => ?_)
  refine lv_aload_n hxe hcd dL_law_1526 rfl (lv_at hl 4 rfl) ?_
  refine l_T hZ S hU (As := []) (rest := []) (t_X10_thrown l hZ B ω H.size) k_L_158 (l_rm hU) hl.1 rfl rfl (Nat.le_of_ble_eq_true rfl) ⟨(Nat.le_of_ble_eq_true rfl), (Nat.le_of_ble_eq_true rfl)⟩ ⟨hc, hs⟩ dL_law_1527 (fun r3 H locs h3 hU => ?_)
  have h3 := h3.symm
  subst h3
  refine r_as hth ?_
  refine lv_iload hxe hcd dL_law_1530 (lv_at hl 1 rfl) ?_
  refine lv_icmp_eq (tgt := 1537) hxe hcd dL_law_1532 (by decide) (fun _ => ?_) (fun h => absurd rfl h)
  refine lv_iload hxe hcd dL_law_1537 (lv_at hl 1 rfl) ?_
  refine lv_if_ne (tgt := 1554) hxe hcd dL_law_1539 (by decide) (fun hk => ?_) (fun hk => ?_)
  · refine lv_goto (tgt := 2709) hxe hcd dL_law_1554 (by decide) ?_
    exact kk u.1 ω u.2 fd H locs ls hU hCR2 hA2 (lv_sub hl [2, 3, 4, 5, 6, 7] rfl)
  · have hres := hres hk
    refine lv_aload_n hxe hcd dL_law_1542 rfl (lv_at hl 5 rfl) ?_
    refine lv_iconst (v := (nI 0)) hxe hcd dL_law_1543 (by decide) ?_
    refine l_jld S hU dL_law_1544 ?_
    refine lv_iload hxe hcd dL_law_1545 (lv_at hl 0 rfl) ?_
    refine lv_i2l (v := rb.toInt64) hxe hcd dL_law_1547 rfl ?_
    refine W.lcmp hxe hcd dL_law_1548 ?_
    refine r_as (y := 0) (by rw [hres]; exact lgc_self _) ?_
    refine lv_if_eq (tgt := 1554) hxe hcd dL_law_1549 (by decide) (fun _ => ?_) (fun h => absurd rfl h)
    refine lv_goto (tgt := 2709) hxe hcd dL_law_1554 (by decide) ?_
    exact kk u.1 ω u.2 fd H locs ls hU hCR2 hA2 (lv_sub hl [2, 3, 4, 5, 6, 7] rfl)
theorem lk_L_drain : lkW RL 231 yL_drain cL_drain 5 [(0, 10, 13, 21), (0, 10, 17, 13), (0, 10, 21, 45)] 4 := ⟨g_938, g_939, g_66, g_940, ⟨by decide +kernel, by decide +kernel, by decide +kernel⟩⟩
set_option maxHeartbeats 4000000 in
set_option maxRecDepth 100000 in
theorem c_22 (l : Launch) (hl0 : l.stackTraces = false) {Z : ZT} (hZ : zOK Z) (hZX : ZX Z) (hNC : XNC Z) {wd : WDT} (hw : ZW Z wd) {p : Program} {e : Env} {s : State} {m : MethodId} {below : List Frame} {meth : Method} {c : Code} {b : Nat} (S : CallFix p m c cL_law 9 s #[Value.ref b] GT RL) {L : Nat} {xs : Nat → Int32} (hX : va_X b L xs s s.heap) (hbl : b < s.heap.size) (hL31 : L < 2 ^ 31) {A0 : Nat → Prop} (hbA : ¬ A0 b) {aj ad : Nat} {B : Nat → Nat} {Q : State → Prop} {g : Nat → Bool} {A : Nat × Nat → Nat} {μ : CM} {ν : MM} {f : Nat → Int64} {fd : Nat → UInt64} {H : Heap} {locs : List Loc} {ls : Array Slot} {i cells slots : Nat} (hU : wW Z (LW Z aj ad B (g, A, μ) ν f fd) A0 s H locs) (hCR : CR (g, A, μ) ν) (hi : i + 4 < L) (hl : lv_has ls 9 [(0, .ref b), (1, .ref (A (0, 14))), (2, .ref (B 0)), (3, .ref aj), (4, .ref ad), (5, .int (nI i))]) (hc : cells + 15 ≤ 603072) (hs : slots + 1376 ≤ 7190633)
  (kk : ∀ (v' : GM) (ν' : MM) (f' : Nat → Int64) (fd' : Nat → UInt64) (H' : Heap) (locs' : List Loc) (ls' : Array Slot), wW Z (LW Z aj ad B v' ν' f' fd') A0 s H' locs' → CR v' ν' → v'.2.1 (0, 14) = A (0, 14) → lv_has ls' 9 [(0, .ref b), (1, .ref (A (0, 14))), (2, .ref (B 0)), (3, .ref aj), (4, .ref ad), (5, .int (nI i))] → W p l e room_1 s m #[Value.ref b] below meth c H' locs' (cells + 15) (slots + 1376) Q (F0 m 2709 ls' [])) : W p l e room_1 s m #[Value.ref b] below meth c H locs cells slots Q (F0 m 1557 ls []) := by
  have hxe := S.1
  have hcd := S.2.1
  obtain ⟨hVG, hR, ⟨kr, cn, hkr, hc8, hk15, hcn, hch, hHR⟩, ⟨sv, hs4, hsv1, hm9, hsn⟩, ⟨tn, t, ht17, ht22, htn60, htx⟩, ⟨lN, hl20, hl26, hlN80, hlx⟩, ⟨he10, he11, hep2, hep3⟩, ⟨hwd, hwa⟩⟩ := id hCR
  have hR : RP (μ 0) (ν 1) := hR
  have hk15 : μ 0 15 1 = nI kr := hk15
  have hcn : μ 0 15 2 = nI cn := hcn
  have hHR : HR g μ kr cn (ν 5) := hHR
  have hm9 : μ 0 14 9 = nI sv := hm9
  have hsn : sv = 1 → VG (ν 3) ∧ RP (μ 2) (ν 3) := hsn
  have ht22 : μ 0 22 1 = nI tn := ht22
  have htx : ∀ j, j < tn → ν 8 j = nI (t j) ∧ μ 0 23 j = nI (t j) ∧ t j < 128 := htx
  have hl26 : μ 0 26 1 = nI lN := hl26
  have hlx : ∀ j, j < lN → ν 9 j = μ 0 27 j ∧ CH (ν 9 j) := hlx
  refine lv_aload_n hxe hcd dL_law_1557 rfl (lv_at hl 1 rfl) ?_
  refine lv_aload_n hxe hcd dL_law_1558 rfl (lv_at hl 0 rfl) ?_
  refine lv_iload hxe hcd dL_law_1559 (lv_at hl 5 rfl) ?_
  refine lv_iconst (v := (nI 1)) hxe hcd dL_law_1561 (by decide) ?_
  refine n_iadd S (a := i) (b := 1) dL_law_1562 ?_
  refine l_sc S hU hX hbl hbA (j := (i + 1)) (by omega) hL31 dL_law_1563 ?_
  refine lv_aload_n hxe hcd dL_law_1564 rfl (lv_at hl 0 rfl) ?_
  refine lv_iload hxe hcd dL_law_1565 (lv_at hl 5 rfl) ?_
  refine lv_iconst (v := (nI 2)) hxe hcd dL_law_1567 (by decide) ?_
  refine n_iadd S (a := i) (b := 2) dL_law_1568 ?_
  refine l_sc S hU hX hbl hbA (j := (i + 2)) (by omega) hL31 dL_law_1569 ?_
  refine lv_aload_n hxe hcd dL_law_1570 rfl (lv_at hl 3 rfl) ?_
  refine l_J hZ S hU (As := [.ref (A (0, 14)), .int (xs (i + 1)), .int (xs (i + 2)), .ref aj]) (rest := []) (t_L_drain l hl0 hZ hZX hNC aj f A g μ H.size hVG hR hkr hk15 hcn hc8 (xs (i + 1)) (xs (i + 2))) lk_L_drain hl.1 rfl rfl (Nat.le_of_ble_eq_true rfl) ⟨(Nat.le_of_ble_eq_true rfl), (Nat.le_of_ble_eq_true rfl)⟩ ⟨hc, hs⟩ dL_law_1571 (fun r u H locs hC hU => ?_)
  refine lv_istore (lv' := [(6, .int r), (0, .ref b), (1, .ref (A (0, 14))), (2, .ref (B 0)), (3, .ref aj), (4, .ref ad), (5, .int (nI i))]) hxe hcd dL_law_1574 hl (by decide) rfl (fun ls hl => ?_)
  refine lv_aload_n hxe hcd dL_law_1576 rfl (lv_at hl 3 rfl) ?_
  refine lv_aload_n hxe hcd dL_law_1577 rfl (lv_at hl 1 rfl) ?_
  refine lv_iload hxe hcd dL_law_1578 (lv_at hl 6 rfl) ?_
  refine lv_iconst (v := (nI 1)) hxe hcd dL_law_1580 (by decide) ?_
  refine n_iadd S (a := i) (b := 1) dL_law_1581 ?_
  refine l_sc S hU hX hbl hbA (j := (i + 1)) (by omega) hL31 dL_law_1582 ?_
  refine lv_aload_n hxe hcd dL_law_1583 rfl (lv_at hl 1 rfl) ?_
  refine lv_iload hxe hcd dL_law_1584 (lv_at hl 6 rfl) ?_
  refine lv_iconst (v := (nI 2)) hxe hcd dL_law_1586 (by decide) ?_
  refine n_iadd S (a := i) (b := 2) dL_law_1587 ?_
  refine l_sc S hU hX hbl hbA (j := (i + 2)) (by omega) hL31 dL_law_1588 ?_
  refine l_Mi hZ S hU (As := [.int (xs (i + 1)), .int (xs (i + 2))]) (rest := []) (t_X10_drain l hZ B ν H.size hVG.2.1.1 hVG.2.1.2 (cpN (ν 1)) (lvN (ν 1)) hVG.2.2.2.2.2.2.2.1 (xs (i + 1)) (xs (i + 2)) hch hc8) k_L_233 (l_rm hU) hl.1 rfl rfl (Nat.le_of_ble_eq_true rfl) ⟨(Nat.le_of_ble_eq_true rfl), (Nat.le_of_ble_eq_true rfl)⟩ ⟨hc, hs⟩ dL_law_1589 (fun rb ω H locs hM hU => ?_)
  obtain ⟨hCR2, hA2, hth, hres⟩ := j_drain hCR hkr hc8 hch hHR  (v := ν 1) rfl hC hM
  refine lv_istore (lv' := [(7, .int rb), (6, .int r), (0, .ref b), (1, .ref (A (0, 14))), (2, .ref (B 0)), (3, .ref aj), (4, .ref ad), (5, .int (nI i))]) hxe hcd dL_law_1592 hl (by decide) rfl (fun ls hl => ?_)
  refine lv_aload_n hxe hcd dL_law_1594 rfl (lv_at hl 4 rfl) ?_
  refine l_T hZ S hU (As := []) (rest := []) (t_X10_thrown l hZ B ω H.size) k_L_158 (l_rm hU) hl.1 rfl rfl (Nat.le_of_ble_eq_true rfl) ⟨(Nat.le_of_ble_eq_true rfl), (Nat.le_of_ble_eq_true rfl)⟩ ⟨hc, hs⟩ dL_law_1595 (fun r3 H locs h3 hU => ?_)
  have h3 := h3.symm
  subst h3
  refine r_as hth ?_
  refine lv_iload hxe hcd dL_law_1598 (lv_at hl 1 rfl) ?_
  refine lv_icmp_eq (tgt := 1605) hxe hcd dL_law_1600 (by decide) (fun _ => ?_) (fun h => absurd rfl h)
  refine lv_iload hxe hcd dL_law_1605 (lv_at hl 1 rfl) ?_
  refine lv_if_ne (tgt := 1622) hxe hcd dL_law_1607 (by decide) (fun hk => ?_) (fun hk => ?_)
  · refine lv_goto (tgt := 2709) hxe hcd dL_law_1622 (by decide) ?_
    exact kk u.1 ω u.2 fd H locs ls hU hCR2 hA2 (lv_sub hl [2, 3, 4, 5, 6, 7] rfl)
  · have hres := hres hk
    refine lv_aload_n hxe hcd dL_law_1610 rfl (lv_at hl 5 rfl) ?_
    refine lv_iconst (v := (nI 0)) hxe hcd dL_law_1611 (by decide) ?_
    refine l_jld S hU dL_law_1612 ?_
    refine lv_iload hxe hcd dL_law_1613 (lv_at hl 0 rfl) ?_
    refine lv_i2l (v := rb.toInt64) hxe hcd dL_law_1615 rfl ?_
    refine W.lcmp hxe hcd dL_law_1616 ?_
    refine r_as (y := 0) (by rw [hres]; exact lgc_self _) ?_
    refine lv_if_eq (tgt := 1622) hxe hcd dL_law_1617 (by decide) (fun _ => ?_) (fun h => absurd rfl h)
    refine lv_goto (tgt := 2709) hxe hcd dL_law_1622 (by decide) ?_
    exact kk u.1 ω u.2 fd H locs ls hU hCR2 hA2 (lv_sub hl [2, 3, 4, 5, 6, 7] rfl)
set_option maxHeartbeats 4000000 in
set_option maxRecDepth 100000 in
theorem c_23 (l : Launch) (hl0 : l.stackTraces = false) {Z : ZT} (hZ : zOK Z) (hZX : ZX Z) (hNC : XNC Z) {wd : WDT} (hw : ZW Z wd) {p : Program} {e : Env} {s : State} {m : MethodId} {below : List Frame} {meth : Method} {c : Code} {b : Nat} (S : CallFix p m c cL_law 9 s #[Value.ref b] GT RL) {L : Nat} {xs : Nat → Int32} (hX : va_X b L xs s s.heap) (hbl : b < s.heap.size) (hL31 : L < 2 ^ 31) {A0 : Nat → Prop} (hbA : ¬ A0 b) {aj ad : Nat} {B : Nat → Nat} {Q : State → Prop} {g : Nat → Bool} {A : Nat × Nat → Nat} {μ : CM} {ν : MM} {f : Nat → Int64} {fd : Nat → UInt64} {H : Heap} {locs : List Loc} {ls : Array Slot} {i cells slots : Nat} (hU : wW Z (LW Z aj ad B (g, A, μ) ν f fd) A0 s H locs) (hCR : CR (g, A, μ) ν) (hi : i + 4 < L) (hl : lv_has ls 9 [(0, .ref b), (1, .ref (A (0, 14))), (2, .ref (B 0)), (3, .ref aj), (4, .ref ad), (5, .int (nI i))]) (hc : cells + 15 ≤ 603072) (hs : slots + 1376 ≤ 7190633)
  (kk : ∀ (v' : GM) (ν' : MM) (f' : Nat → Int64) (fd' : Nat → UInt64) (H' : Heap) (locs' : List Loc) (ls' : Array Slot), wW Z (LW Z aj ad B v' ν' f' fd') A0 s H' locs' → CR v' ν' → v'.2.1 (0, 14) = A (0, 14) → lv_has ls' 9 [(0, .ref b), (1, .ref (A (0, 14))), (2, .ref (B 0)), (3, .ref aj), (4, .ref ad), (5, .int (nI i))] → W p l e room_1 s m #[Value.ref b] below meth c H' locs' (cells + 15) (slots + 1376) Q (F0 m 2709 ls' [])) : W p l e room_1 s m #[Value.ref b] below meth c H locs cells slots Q (F0 m 1625 ls []) := by
  have hxe := S.1
  have hcd := S.2.1
  obtain ⟨hVG, hR, ⟨kr, cn, hkr, hc8, hk15, hcn, hch, hHR⟩, ⟨sv, hs4, hsv1, hm9, hsn⟩, ⟨tn, t, ht17, ht22, htn60, htx⟩, ⟨lN, hl20, hl26, hlN80, hlx⟩, ⟨he10, he11, hep2, hep3⟩, ⟨hwd, hwa⟩⟩ := id hCR
  have hR : RP (μ 0) (ν 1) := hR
  have hk15 : μ 0 15 1 = nI kr := hk15
  have hcn : μ 0 15 2 = nI cn := hcn
  have hHR : HR g μ kr cn (ν 5) := hHR
  have hm9 : μ 0 14 9 = nI sv := hm9
  have hsn : sv = 1 → VG (ν 3) ∧ RP (μ 2) (ν 3) := hsn
  have ht22 : μ 0 22 1 = nI tn := ht22
  have htx : ∀ j, j < tn → ν 8 j = nI (t j) ∧ μ 0 23 j = nI (t j) ∧ t j < 128 := htx
  have hl26 : μ 0 26 1 = nI lN := hl26
  have hlx : ∀ j, j < lN → ν 9 j = μ 0 27 j ∧ CH (ν 9 j) := hlx
  refine lv_aload_n hxe hcd dL_law_1625 rfl (lv_at hl 1 rfl) ?_
  refine l_C (mc := 15) (ms := 1376) hZ S hU (As := []) (rest := []) (fun _ _ h => h) (t_X9_tankCount l hl0 hZ hZX A g μ H.size hVG hR) k_L_234 (l_rc hU) hl.1 rfl rfl (Nat.le_of_ble_eq_true rfl) ⟨(Nat.le_of_ble_eq_true rfl), (Nat.le_of_ble_eq_true rfl)⟩ ⟨hc, hs⟩ dL_law_1626 (fun r u H locs hC hU => ?_)
  refine lv_aload_n hxe hcd dL_law_1629 rfl (lv_at hl 2 rfl) ?_
  refine l_Mi hZ S hU (As := []) (rest := [.int r]) (t_X10_tankCount l hZ B ν H.size ) k_L_237 (l_rm hU) hl.1 rfl rfl (Nat.le_of_ble_eq_true rfl) ⟨(Nat.le_of_ble_eq_true rfl), (Nat.le_of_ble_eq_true rfl)⟩ ⟨hc, hs⟩ dL_law_1630 (fun rb ω H locs hM hU => ?_)
  obtain ⟨hCR2, hA2, hrb⟩ := j_tankCount hCR (v := ν 1) rfl hC hM
  subst hrb
  refine lv_icmp_eq (tgt := 2709) hxe hcd dL_law_1633 (by decide) (fun _ => ?_) (fun h => absurd rfl h)
  exact kk u ω f fd H locs ls hU hCR2 hA2 (lv_sub hl [0, 1, 2, 3, 4, 5] rfl)
