theorem lk_L_addFilter : lkW RL 152 yL_addFilter cL_addFilter 5 [(0, 10, 13, 13), (0, 10, 17, 15)] 4 := ⟨g_536, g_537, g_66, g_538, ⟨by decide +kernel, by decide +kernel, by decide +kernel⟩⟩
set_option maxHeartbeats 4000000 in
set_option maxRecDepth 100000 in
theorem c_0 (l : Launch) (hl0 : l.stackTraces = false) {Z : ZT} (hZ : zOK Z) (hZX : ZX Z) (hNC : XNC Z) {wd : WDT} (hw : ZW Z wd) {p : Program} {e : Env} {s : State} {m : MethodId} {below : List Frame} {meth : Method} {c : Code} {b : Nat} (S : CallFix p m c cL_law 9 s #[Value.ref b] GT RL) {L : Nat} {xs : Nat → Int32} (hX : va_X b L xs s s.heap) (hbl : b < s.heap.size) (hL31 : L < 2 ^ 31) {A0 : Nat → Prop} (hbA : ¬ A0 b) {aj ad : Nat} {B : Nat → Nat} {Q : State → Prop} {g : Nat → Bool} {A : Nat × Nat → Nat} {μ : CM} {ν : MM} {f : Nat → Int64} {fd : Nat → UInt64} {H : Heap} {locs : List Loc} {ls : Array Slot} {i cells slots : Nat} (hU : wW Z (LW Z aj ad B (g, A, μ) ν f fd) A0 s H locs) (hCR : CR (g, A, μ) ν) (hi : i + 4 < L) (hl : lv_has ls 9 [(0, .ref b), (1, .ref (A (0, 14))), (2, .ref (B 0)), (3, .ref aj), (4, .ref ad), (5, .int (nI i))]) (hc : cells + 15 ≤ 603072) (hs : slots + 1376 ≤ 7190633)
  (kk : ∀ (v' : GM) (ν' : MM) (f' : Nat → Int64) (fd' : Nat → UInt64) (H' : Heap) (locs' : List Loc) (ls' : Array Slot), wW Z (LW Z aj ad B v' ν' f' fd') A0 s H' locs' → CR v' ν' → v'.2.1 (0, 14) = A (0, 14) → lv_has ls' 9 [(0, .ref b), (1, .ref (A (0, 14))), (2, .ref (B 0)), (3, .ref aj), (4, .ref ad), (5, .int (nI i))] → W p l e room_1 s m #[Value.ref b] below meth c H' locs' (cells + 15) (slots + 1376) Q (F0 m 2709 ls' [])) : W p l e room_1 s m #[Value.ref b] below meth c H locs cells slots Q (F0 m 252 ls []) := by
  have hxe := S.1
  have hcd := S.2.1
  obtain ⟨hVG, hR, ⟨kr, cn, hkr, hc8, hk15, hcn, hch, hHR⟩, ⟨sv, hs4, hsv1, hm9, hsn⟩, ⟨tn, t, ht17, ht22, htn60, htx⟩, ⟨lN, hl20, hl26, hlN80, hlx⟩, ⟨he10, he11, hep2, hep3⟩, ⟨hwd, hwa⟩⟩ := id hCR
  have hR : RP (μ 0) (ν 1) := hR
  have hk15 : μ 0 15 1 = nI kr := hk15
  have hcn : μ 0 15 2 = nI cn := hcn
  have hHR : HR g μ kr cn (ν 5) := hHR
  have hm9 : μ 0 14 9 = nI sv := hm9
  have hsn : sv = 1 → VG (ν 3) ∧ RP (μ 2) (ν 3) := hsn
  have ht22 : μ 0 22 1 = nI tn := ht22
  have htx : ∀ j, j < tn → ν 8 j = nI (t j) ∧ μ 0 23 j = nI (t j) ∧ t j < 128 := htx
  have hl26 : μ 0 26 1 = nI lN := hl26
  have hlx : ∀ j, j < lN → ν 9 j = μ 0 27 j ∧ CH (ν 9 j) := hlx
  refine lv_aload_n hxe hcd dL_law_252 rfl (lv_at hl 1 rfl) ?_
  refine lv_aload_n hxe hcd dL_law_253 rfl (lv_at hl 0 rfl) ?_
  refine lv_iload hxe hcd dL_law_254 (lv_at hl 5 rfl) ?_
  refine lv_iconst (v := (nI 1)) hxe hcd dL_law_256 (by decide) ?_
  refine n_iadd S (a := i) (b := 1) dL_law_257 ?_
  refine l_sc S hU hX hbl hbA (j := (i + 1)) (by omega) hL31 dL_law_258 ?_
  refine lv_i2c (v := (((xs (i + 1))).toUInt32 % 65536).toInt32) hxe hcd dL_law_259 rfl ?_
  refine lv_aload_n hxe hcd dL_law_260 rfl (lv_at hl 0 rfl) ?_
  refine lv_iload hxe hcd dL_law_261 (lv_at hl 5 rfl) ?_
  refine lv_iconst (v := (nI 2)) hxe hcd dL_law_263 (by decide) ?_
  refine n_iadd S (a := i) (b := 2) dL_law_264 ?_
  refine l_sc S hU hX hbl hbA (j := (i + 2)) (by omega) hL31 dL_law_265 ?_
  refine lv_aload_n hxe hcd dL_law_266 rfl (lv_at hl 3 rfl) ?_
  refine l_J hZ S hU (As := [.ref (A (0, 14)), .int ((((xs (i + 1))).toUInt32 % 65536).toInt32), .int (xs (i + 2)), .ref aj]) (rest := []) (t_L_addFilter l hl0 hZ hZX hNC aj f A g μ H.size hVG hR hkr hk15 hcn hc8 ((((xs (i + 1))).toUInt32 % 65536).toInt32) (xs (i + 2))) lk_L_addFilter hl.1 rfl rfl (Nat.le_of_ble_eq_true rfl) ⟨(Nat.le_of_ble_eq_true rfl), (Nat.le_of_ble_eq_true rfl)⟩ ⟨hc, hs⟩ dL_law_267 (fun r u H locs hC hU => ?_)
  refine lv_istore (lv' := [(6, .int r), (0, .ref b), (1, .ref (A (0, 14))), (2, .ref (B 0)), (3, .ref aj), (4, .ref ad), (5, .int (nI i))]) hxe hcd dL_law_270 hl (by decide) rfl (fun ls hl => ?_)
  refine lv_aload_n hxe hcd dL_law_272 rfl (lv_at hl 3 rfl) ?_
  refine lv_aload_n hxe hcd dL_law_273 rfl (lv_at hl 1 rfl) ?_
  refine lv_iload hxe hcd dL_law_274 (lv_at hl 6 rfl) ?_
  refine lv_iconst (v := (nI 1)) hxe hcd dL_law_276 (by decide) ?_
  refine n_iadd S (a := i) (b := 1) dL_law_277 ?_
  refine l_sc S hU hX hbl hbA (j := (i + 1)) (by omega) hL31 dL_law_278 ?_
  refine lv_i2c (v := (((xs (i + 1))).toUInt32 % 65536).toInt32) hxe hcd dL_law_279 rfl ?_
  refine lv_aload_n hxe hcd dL_law_280 rfl (lv_at hl 1 rfl) ?_
  refine lv_iload hxe hcd dL_law_281 (lv_at hl 6 rfl) ?_
  refine lv_iconst (v := (nI 2)) hxe hcd dL_law_283 (by decide) ?_
  refine n_iadd S (a := i) (b := 2) dL_law_284 ?_
  refine l_sc S hU hX hbl hbA (j := (i + 2)) (by omega) hL31 dL_law_285 ?_
  refine l_Mi hZ S hU (As := [.int ((((xs (i + 1))).toUInt32 % 65536).toInt32), .int (xs (i + 2))]) (rest := []) (t_X10_addFilter l hZ B ν H.size hVG.1.1 hVG.1.2 ((((xs (i + 1))).toUInt32 % 65536).toInt32) (xs (i + 2)) hch hc8) k_L_157 (l_rm hU) hl.1 rfl rfl (Nat.le_of_ble_eq_true rfl) ⟨(Nat.le_of_ble_eq_true rfl), (Nat.le_of_ble_eq_true rfl)⟩ ⟨hc, hs⟩ dL_law_286 (fun rb ω H locs hM hU => ?_)
  obtain ⟨hCR2, hA2, hth, hres⟩ := j_addFilter hCR hkr hc8 hch hHR  (v := ν 1) rfl hC hM
  refine lv_istore (lv' := [(7, .int rb), (6, .int r), (0, .ref b), (1, .ref (A (0, 14))), (2, .ref (B 0)), (3, .ref aj), (4, .ref ad), (5, .int (nI i))]) hxe hcd dL_law_289 hl (by decide) rfl (fun ls hl => ?_)
  refine lv_aload_n hxe hcd dL_law_291 rfl (lv_at hl 4 rfl) ?_
  refine l_T hZ S hU (As := []) (rest := []) (t_X10_thrown l hZ B ω H.size) k_L_158 (l_rm hU) hl.1 rfl rfl (Nat.le_of_ble_eq_true rfl) ⟨(Nat.le_of_ble_eq_true rfl), (Nat.le_of_ble_eq_true rfl)⟩ ⟨hc, hs⟩ dL_law_292 (fun r3 H locs h3 hU => ?_)
  have h3 := h3.symm
  subst h3
  refine r_as hth ?_
  refine lv_iload hxe hcd dL_law_295 (lv_at hl 1 rfl) ?_
  refine lv_icmp_eq (tgt := 302) hxe hcd dL_law_297 (by decide) (fun _ => ?_) (fun h => absurd rfl h)
  refine lv_iload hxe hcd dL_law_302 (lv_at hl 1 rfl) ?_
  refine lv_if_ne (tgt := 319) hxe hcd dL_law_304 (by decide) (fun hk => ?_) (fun hk => ?_)
  · refine lv_goto (tgt := 2709) hxe hcd dL_law_319 (by decide) ?_
    exact kk u.1 ω u.2 fd H locs ls hU hCR2 hA2 (lv_sub hl [2, 3, 4, 5, 6, 7] rfl)
  · have hres := hres hk
    refine lv_aload_n hxe hcd dL_law_307 rfl (lv_at hl 5 rfl) ?_
    refine lv_iconst (v := (nI 0)) hxe hcd dL_law_308 (by decide) ?_
    refine l_jld S hU dL_law_309 ?_
    refine lv_iload hxe hcd dL_law_310 (lv_at hl 0 rfl) ?_
    refine lv_i2l (v := rb.toInt64) hxe hcd dL_law_312 rfl ?_
    refine W.lcmp hxe hcd dL_law_313 ?_
    refine r_as (y := 0) (by rw [hres]; exact lgc_self _) ?_
    refine lv_if_eq (tgt := 319) hxe hcd dL_law_314 (by decide) (fun _ => ?_) (fun h => absurd rfl h)
    refine lv_goto (tgt := 2709) hxe hcd dL_law_319 (by decide) ?_
    exact kk u.1 ω u.2 fd H locs ls hU hCR2 hA2 (lv_sub hl [2, 3, 4, 5, 6, 7] rfl)
theorem lk_L_insertFilter : lkW RL 161 yL_insertFilter cL_insertFilter 6 [(0, 12, 15, 21), (0, 12, 19, 13), (0, 12, 23, 15)] 5 := ⟨g_699, g_700, g_66, g_701, ⟨by decide +kernel, by decide +kernel, by decide +kernel⟩⟩
set_option maxHeartbeats 4000000 in
set_option maxRecDepth 100000 in
theorem c_1 (l : Launch) (hl0 : l.stackTraces = false) {Z : ZT} (hZ : zOK Z) (hZX : ZX Z) (hNC : XNC Z) {wd : WDT} (hw : ZW Z wd) {p : Program} {e : Env} {s : State} {m : MethodId} {below : List Frame} {meth : Method} {c : Code} {b : Nat} (S : CallFix p m c cL_law 9 s #[Value.ref b] GT RL) {L : Nat} {xs : Nat → Int32} (hX : va_X b L xs s s.heap) (hbl : b < s.heap.size) (hL31 : L < 2 ^ 31) {A0 : Nat → Prop} (hbA : ¬ A0 b) {aj ad : Nat} {B : Nat → Nat} {Q : State → Prop} {g : Nat → Bool} {A : Nat × Nat → Nat} {μ : CM} {ν : MM} {f : Nat → Int64} {fd : Nat → UInt64} {H : Heap} {locs : List Loc} {ls : Array Slot} {i cells slots : Nat} (hU : wW Z (LW Z aj ad B (g, A, μ) ν f fd) A0 s H locs) (hCR : CR (g, A, μ) ν) (hi : i + 4 < L) (hl : lv_has ls 9 [(0, .ref b), (1, .ref (A (0, 14))), (2, .ref (B 0)), (3, .ref aj), (4, .ref ad), (5, .int (nI i))]) (hc : cells + 15 ≤ 603072) (hs : slots + 1376 ≤ 7190633)
  (kk : ∀ (v' : GM) (ν' : MM) (f' : Nat → Int64) (fd' : Nat → UInt64) (H' : Heap) (locs' : List Loc) (ls' : Array Slot), wW Z (LW Z aj ad B v' ν' f' fd') A0 s H' locs' → CR v' ν' → v'.2.1 (0, 14) = A (0, 14) → lv_has ls' 9 [(0, .ref b), (1, .ref (A (0, 14))), (2, .ref (B 0)), (3, .ref aj), (4, .ref ad), (5, .int (nI i))] → W p l e room_1 s m #[Value.ref b] below meth c H' locs' (cells + 15) (slots + 1376) Q (F0 m 2709 ls' [])) : W p l e room_1 s m #[Value.ref b] below meth c H locs cells slots Q (F0 m 322 ls []) := by
  have hxe := S.1
  have hcd := S.2.1
  obtain ⟨hVG, hR, ⟨kr, cn, hkr, hc8, hk15, hcn, hch, hHR⟩, ⟨sv, hs4, hsv1, hm9, hsn⟩, ⟨tn, t, ht17, ht22, htn60, htx⟩, ⟨lN, hl20, hl26, hlN80, hlx⟩, ⟨he10, he11, hep2, hep3⟩, ⟨hwd, hwa⟩⟩ := id hCR
  have hR : RP (μ 0) (ν 1) := hR
  have hk15 : μ 0 15 1 = nI kr := hk15
  have hcn : μ 0 15 2 = nI cn := hcn
  have hHR : HR g μ kr cn (ν 5) := hHR
  have hm9 : μ 0 14 9 = nI sv := hm9
  have hsn : sv = 1 → VG (ν 3) ∧ RP (μ 2) (ν 3) := hsn
  have ht22 : μ 0 22 1 = nI tn := ht22
  have htx : ∀ j, j < tn → ν 8 j = nI (t j) ∧ μ 0 23 j = nI (t j) ∧ t j < 128 := htx
  have hl26 : μ 0 26 1 = nI lN := hl26
  have hlx : ∀ j, j < lN → ν 9 j = μ 0 27 j ∧ CH (ν 9 j) := hlx
  refine lv_aload_n hxe hcd dL_law_322 rfl (lv_at hl 1 rfl) ?_
  refine lv_aload_n hxe hcd dL_law_323 rfl (lv_at hl 0 rfl) ?_
  refine lv_iload hxe hcd dL_law_324 (lv_at hl 5 rfl) ?_
  refine lv_iconst (v := (nI 1)) hxe hcd dL_law_326 (by decide) ?_
  refine n_iadd S (a := i) (b := 1) dL_law_327 ?_
  refine l_sc S hU hX hbl hbA (j := (i + 1)) (by omega) hL31 dL_law_328 ?_
  refine lv_aload_n hxe hcd dL_law_329 rfl (lv_at hl 0 rfl) ?_
  refine lv_iload hxe hcd dL_law_330 (lv_at hl 5 rfl) ?_
  refine lv_iconst (v := (nI 2)) hxe hcd dL_law_332 (by decide) ?_
  refine n_iadd S (a := i) (b := 2) dL_law_333 ?_
  refine l_sc S hU hX hbl hbA (j := (i + 2)) (by omega) hL31 dL_law_334 ?_
  refine lv_i2c (v := (((xs (i + 2))).toUInt32 % 65536).toInt32) hxe hcd dL_law_335 rfl ?_
  refine lv_aload_n hxe hcd dL_law_336 rfl (lv_at hl 0 rfl) ?_
  refine lv_iload hxe hcd dL_law_337 (lv_at hl 5 rfl) ?_
  refine lv_iconst (v := (nI 3)) hxe hcd dL_law_339 (by decide) ?_
  refine n_iadd S (a := i) (b := 3) dL_law_340 ?_
  refine l_sc S hU hX hbl hbA (j := (i + 3)) (by omega) hL31 dL_law_341 ?_
  refine lv_aload_n hxe hcd dL_law_342 rfl (lv_at hl 3 rfl) ?_
  refine l_J hZ S hU (As := [.ref (A (0, 14)), .int (xs (i + 1)), .int ((((xs (i + 2))).toUInt32 % 65536).toInt32), .int (xs (i + 3)), .ref aj]) (rest := []) (t_L_insertFilter l hl0 hZ hZX hNC aj f A g μ H.size hVG hR hkr hk15 hcn hc8 (xs (i + 1)) ((((xs (i + 2))).toUInt32 % 65536).toInt32) (xs (i + 3))) lk_L_insertFilter hl.1 rfl rfl (Nat.le_of_ble_eq_true rfl) ⟨(Nat.le_of_ble_eq_true rfl), (Nat.le_of_ble_eq_true rfl)⟩ ⟨hc, hs⟩ dL_law_343 (fun r u H locs hC hU => ?_)
  refine lv_istore (lv' := [(6, .int r), (0, .ref b), (1, .ref (A (0, 14))), (2, .ref (B 0)), (3, .ref aj), (4, .ref ad), (5, .int (nI i))]) hxe hcd dL_law_346 hl (by decide) rfl (fun ls hl => ?_)
  refine lv_aload_n hxe hcd dL_law_348 rfl (lv_at hl 3 rfl) ?_
  refine lv_aload_n hxe hcd dL_law_349 rfl (lv_at hl 1 rfl) ?_
  refine lv_iload hxe hcd dL_law_350 (lv_at hl 6 rfl) ?_
  refine lv_iconst (v := (nI 1)) hxe hcd dL_law_352 (by decide) ?_
  refine n_iadd S (a := i) (b := 1) dL_law_353 ?_
  refine l_sc S hU hX hbl hbA (j := (i + 1)) (by omega) hL31 dL_law_354 ?_
  refine lv_aload_n hxe hcd dL_law_355 rfl (lv_at hl 1 rfl) ?_
  refine lv_iload hxe hcd dL_law_356 (lv_at hl 6 rfl) ?_
  refine lv_iconst (v := (nI 2)) hxe hcd dL_law_358 (by decide) ?_
  refine n_iadd S (a := i) (b := 2) dL_law_359 ?_
  refine l_sc S hU hX hbl hbA (j := (i + 2)) (by omega) hL31 dL_law_360 ?_
  refine lv_i2c (v := (((xs (i + 2))).toUInt32 % 65536).toInt32) hxe hcd dL_law_361 rfl ?_
  refine lv_aload_n hxe hcd dL_law_362 rfl (lv_at hl 1 rfl) ?_
  refine lv_iload hxe hcd dL_law_363 (lv_at hl 6 rfl) ?_
  refine lv_iconst (v := (nI 3)) hxe hcd dL_law_365 (by decide) ?_
  refine n_iadd S (a := i) (b := 3) dL_law_366 ?_
  refine l_sc S hU hX hbl hbA (j := (i + 3)) (by omega) hL31 dL_law_367 ?_
  refine l_Mi hZ S hU (As := [.int (xs (i + 1)), .int ((((xs (i + 2))).toUInt32 % 65536).toInt32), .int (xs (i + 3))]) (rest := []) (t_X10_insertFilter l hZ B ν H.size hVG.1.1 hVG.1.2 (xs (i + 1)) ((((xs (i + 2))).toUInt32 % 65536).toInt32) (xs (i + 3)) hch hc8) k_L_164 (l_rm hU) hl.1 rfl rfl (Nat.le_of_ble_eq_true rfl) ⟨(Nat.le_of_ble_eq_true rfl), (Nat.le_of_ble_eq_true rfl)⟩ ⟨hc, hs⟩ dL_law_368 (fun rb ω H locs hM hU => ?_)
  obtain ⟨hCR2, hA2, hth, hres⟩ := j_insertFilter hCR hkr hc8 hch hHR  (v := ν 1) rfl hC hM
  refine lv_istore (lv' := [(7, .int rb), (6, .int r), (0, .ref b), (1, .ref (A (0, 14))), (2, .ref (B 0)), (3, .ref aj), (4, .ref ad), (5, .int (nI i))]) hxe hcd dL_law_371 hl (by decide) rfl (fun ls hl => ?_)
  refine lv_aload_n hxe hcd dL_law_373 rfl (lv_at hl 4 rfl) ?_
  refine l_T hZ S hU (As := []) (rest := []) (t_X10_thrown l hZ B ω H.size) k_L_158 (l_rm hU) hl.1 rfl rfl (Nat.le_of_ble_eq_true rfl) ⟨(Nat.le_of_ble_eq_true rfl), (Nat.le_of_ble_eq_true rfl)⟩ ⟨hc, hs⟩ dL_law_374 (fun r3 H locs h3 hU => ?_)
  have h3 := h3.symm
  subst h3
  refine r_as hth ?_
  refine lv_iload hxe hcd dL_law_377 (lv_at hl 1 rfl) ?_
  refine lv_icmp_eq (tgt := 384) hxe hcd dL_law_379 (by decide) (fun _ => ?_) (fun h => absurd rfl h)
  refine lv_iload hxe hcd dL_law_384 (lv_at hl 1 rfl) ?_
  refine lv_if_ne (tgt := 401) hxe hcd dL_law_386 (by decide) (fun hk => ?_) (fun hk => ?_)
  · refine lv_goto (tgt := 2709) hxe hcd dL_law_401 (by decide) ?_
    exact kk u.1 ω u.2 fd H locs ls hU hCR2 hA2 (lv_sub hl [2, 3, 4, 5, 6, 7] rfl)
  · have hres := hres hk
    refine lv_aload_n hxe hcd dL_law_389 rfl (lv_at hl 5 rfl) ?_
    refine lv_iconst (v := (nI 0)) hxe hcd dL_law_390 (by decide) ?_
    refine l_jld S hU dL_law_391 ?_
    refine lv_iload hxe hcd dL_law_392 (lv_at hl 0 rfl) ?_
    refine lv_i2l (v := rb.toInt64) hxe hcd dL_law_394 rfl ?_
    refine W.lcmp hxe hcd dL_law_395 ?_
    refine r_as (y := 0) (by rw [hres]; exact lgc_self _) ?_
    refine lv_if_eq (tgt := 401) hxe hcd dL_law_396 (by decide) (fun _ => ?_) (fun h => absurd rfl h)
    refine lv_goto (tgt := 2709) hxe hcd dL_law_401 (by decide) ?_
    exact kk u.1 ω u.2 fd H locs ls hU hCR2 hA2 (lv_sub hl [2, 3, 4, 5, 6, 7] rfl)
set_option maxHeartbeats 4000000 in
set_option maxRecDepth 100000 in
theorem c_4 (l : Launch) (hl0 : l.stackTraces = false) {Z : ZT} (hZ : zOK Z) (hZX : ZX Z) (hNC : XNC Z) {wd : WDT} (hw : ZW Z wd) {p : Program} {e : Env} {s : State} {m : MethodId} {below : List Frame} {meth : Method} {c : Code} {b : Nat} (S : CallFix p m c cL_law 9 s #[Value.ref b] GT RL) {L : Nat} {xs : Nat → Int32} (hX : va_X b L xs s s.heap) (hbl : b < s.heap.size) (hL31 : L < 2 ^ 31) {A0 : Nat → Prop} (hbA : ¬ A0 b) {aj ad : Nat} {B : Nat → Nat} {Q : State → Prop} {g : Nat → Bool} {A : Nat × Nat → Nat} {μ : CM} {ν : MM} {f : Nat → Int64} {fd : Nat → UInt64} {H : Heap} {locs : List Loc} {ls : Array Slot} {i cells slots : Nat} (hU : wW Z (LW Z aj ad B (g, A, μ) ν f fd) A0 s H locs) (hCR : CR (g, A, μ) ν) (hi : i + 4 < L) (hl : lv_has ls 9 [(0, .ref b), (1, .ref (A (0, 14))), (2, .ref (B 0)), (3, .ref aj), (4, .ref ad), (5, .int (nI i))]) (hc : cells + 15 ≤ 603072) (hs : slots + 1376 ≤ 7190633)
  (kk : ∀ (v' : GM) (ν' : MM) (f' : Nat → Int64) (fd' : Nat → UInt64) (H' : Heap) (locs' : List Loc) (ls' : Array Slot), wW Z (LW Z aj ad B v' ν' f' fd') A0 s H' locs' → CR v' ν' → v'.2.1 (0, 14) = A (0, 14) → lv_has ls' 9 [(0, .ref b), (1, .ref (A (0, 14))), (2, .ref (B 0)), (3, .ref aj), (4, .ref ad), (5, .int (nI i))] → W p l e room_1 s m #[Value.ref b] below meth c H' locs' (cells + 15) (slots + 1376) Q (F0 m 2709 ls' [])) : W p l e room_1 s m #[Value.ref b] below meth c H locs cells slots Q (F0 m 528 ls []) := by
  have hxe := S.1
  have hcd := S.2.1
  obtain ⟨hVG, hR, ⟨kr, cn, hkr, hc8, hk15, hcn, hch, hHR⟩, ⟨sv, hs4, hsv1, hm9, hsn⟩, ⟨tn, t, ht17, ht22, htn60, htx⟩, ⟨lN, hl20, hl26, hlN80, hlx⟩, ⟨he10, he11, hep2, hep3⟩, ⟨hwd, hwa⟩⟩ := id hCR
  have hR : RP (μ 0) (ν 1) := hR
  have hk15 : μ 0 15 1 = nI kr := hk15
  have hcn : μ 0 15 2 = nI cn := hcn
  have hHR : HR g μ kr cn (ν 5) := hHR
  have hm9 : μ 0 14 9 = nI sv := hm9
  have hsn : sv = 1 → VG (ν 3) ∧ RP (μ 2) (ν 3) := hsn
  have ht22 : μ 0 22 1 = nI tn := ht22
  have htx : ∀ j, j < tn → ν 8 j = nI (t j) ∧ μ 0 23 j = nI (t j) ∧ t j < 128 := htx
  have hl26 : μ 0 26 1 = nI lN := hl26
  have hlx : ∀ j, j < lN → ν 9 j = μ 0 27 j ∧ CH (ν 9 j) := hlx
  refine lv_aload_n hxe hcd dL_law_528 rfl (lv_at hl 1 rfl) ?_
  refine l_C (mc := 15) (ms := 1376) hZ S hU (As := []) (rest := []) (fun _ _ h => h) (t_X9_filterCount l hl0 hZ hZX A g μ H.size hVG hR) k_L_173 (l_rc hU) hl.1 rfl rfl (Nat.le_of_ble_eq_true rfl) ⟨(Nat.le_of_ble_eq_true rfl), (Nat.le_of_ble_eq_true rfl)⟩ ⟨hc, hs⟩ dL_law_529 (fun r u H locs hC hU => ?_)
  refine lv_aload_n hxe hcd dL_law_532 rfl (lv_at hl 2 rfl) ?_
  refine l_Mi hZ S hU (As := []) (rest := [.int r]) (t_X10_filterCount l hZ B ν H.size ) k_L_176 (l_rm hU) hl.1 rfl rfl (Nat.le_of_ble_eq_true rfl) ⟨(Nat.le_of_ble_eq_true rfl), (Nat.le_of_ble_eq_true rfl)⟩ ⟨hc, hs⟩ dL_law_533 (fun rb ω H locs hM hU => ?_)
  obtain ⟨hCR2, hA2, hrb⟩ := j_filterCount hCR (v := ν 1) rfl hC hM
  subst hrb
  refine lv_icmp_eq (tgt := 2709) hxe hcd dL_law_536 (by decide) (fun _ => ?_) (fun h => absurd rfl h)
  exact kk u ω f fd H locs ls hU hCR2 hA2 (lv_sub hl [0, 1, 2, 3, 4, 5] rfl)
theorem lk_L_energy : lkW RL 212 yL_energy cL_energy 4 [(0, 8, 11, 21)] 3 := ⟨g_879, g_880, g_66, g_881, ⟨by decide +kernel, by decide +kernel, by decide +kernel⟩⟩
set_option maxHeartbeats 4000000 in
set_option maxRecDepth 100000 in
theorem c_16 (l : Launch) (hl0 : l.stackTraces = false) {Z : ZT} (hZ : zOK Z) (hZX : ZX Z) (hNC : XNC Z) {wd : WDT} (hw : ZW Z wd) {p : Program} {e : Env} {s : State} {m : MethodId} {below : List Frame} {meth : Method} {c : Code} {b : Nat} (S : CallFix p m c cL_law 9 s #[Value.ref b] GT RL) {L : Nat} {xs : Nat → Int32} (hX : va_X b L xs s s.heap) (hbl : b < s.heap.size) (hL31 : L < 2 ^ 31) {A0 : Nat → Prop} (hbA : ¬ A0 b) {aj ad : Nat} {B : Nat → Nat} {Q : State → Prop} {g : Nat → Bool} {A : Nat × Nat → Nat} {μ : CM} {ν : MM} {f : Nat → Int64} {fd : Nat → UInt64} {H : Heap} {locs : List Loc} {ls : Array Slot} {i cells slots : Nat} (hU : wW Z (LW Z aj ad B (g, A, μ) ν f fd) A0 s H locs) (hCR : CR (g, A, μ) ν) (hi : i + 4 < L) (hl : lv_has ls 9 [(0, .ref b), (1, .ref (A (0, 14))), (2, .ref (B 0)), (3, .ref aj), (4, .ref ad), (5, .int (nI i))]) (hc : cells + 15 ≤ 603072) (hs : slots + 1376 ≤ 7190633)
  (kk : ∀ (v' : GM) (ν' : MM) (f' : Nat → Int64) (fd' : Nat → UInt64) (H' : Heap) (locs' : List Loc) (ls' : Array Slot), wW Z (LW Z aj ad B v' ν' f' fd') A0 s H' locs' → CR v' ν' → v'.2.1 (0, 14) = A (0, 14) → lv_has ls' 9 [(0, .ref b), (1, .ref (A (0, 14))), (2, .ref (B 0)), (3, .ref aj), (4, .ref ad), (5, .int (nI i))] → W p l e room_1 s m #[Value.ref b] below meth c H' locs' (cells + 15) (slots + 1376) Q (F0 m 2709 ls' [])) : W p l e room_1 s m #[Value.ref b] below meth c H locs cells slots Q (F0 m 1253 ls []) := by
  have hxe := S.1
  have hcd := S.2.1
  obtain ⟨hVG, hR, ⟨kr, cn, hkr, hc8, hk15, hcn, hch, hHR⟩, ⟨sv, hs4, hsv1, hm9, hsn⟩, ⟨tn, t, ht17, ht22, htn60, htx⟩, ⟨lN, hl20, hl26, hlN80, hlx⟩, ⟨he10, he11, hep2, hep3⟩, ⟨hwd, hwa⟩⟩ := id hCR
  have hR : RP (μ 0) (ν 1) := hR
  have hk15 : μ 0 15 1 = nI kr := hk15
  have hcn : μ 0 15 2 = nI cn := hcn
  have hHR : HR g μ kr cn (ν 5) := hHR
  have hm9 : μ 0 14 9 = nI sv := hm9
  have hsn : sv = 1 → VG (ν 3) ∧ RP (μ 2) (ν 3) := hsn
  have ht22 : μ 0 22 1 = nI tn := ht22
  have htx : ∀ j, j < tn → ν 8 j = nI (t j) ∧ μ 0 23 j = nI (t j) ∧ t j < 128 := htx
  have hl26 : μ 0 26 1 = nI lN := hl26
  have hlx : ∀ j, j < lN → ν 9 j = μ 0 27 j ∧ CH (ν 9 j) := hlx
  refine lv_aload_n hxe hcd dL_law_1253 rfl (lv_at hl 1 rfl) ?_
  refine lv_aload_n hxe hcd dL_law_1254 rfl (lv_at hl 0 rfl) ?_
  refine lv_iload hxe hcd dL_law_1255 (lv_at hl 5 rfl) ?_
  refine lv_iconst (v := (nI 1)) hxe hcd dL_law_1257 (by decide) ?_
  refine n_iadd S (a := i) (b := 1) dL_law_1258 ?_
  refine l_sc S hU hX hbl hbA (j := (i + 1)) (by omega) hL31 dL_law_1259 ?_
  refine lv_aload_n hxe hcd dL_law_1260 rfl (lv_at hl 3 rfl) ?_
  refine l_J hZ S hU (As := [.ref (A (0, 14)), .int (xs (i + 1)), .ref aj]) (rest := []) (t_L_energy l hl0 hZ hZX hNC aj f A g μ H.size hVG hR (xs (i + 1))) lk_L_energy hl.1 rfl rfl (Nat.le_of_ble_eq_true rfl) ⟨(Nat.le_of_ble_eq_true rfl), (Nat.le_of_ble_eq_true rfl)⟩ ⟨hc, hs⟩ dL_law_1261 (fun r u H locs hC hU => ?_)
  refine lv_istore (lv' := [(6, .int r), (0, .ref b), (1, .ref (A (0, 14))), (2, .ref (B 0)), (3, .ref aj), (4, .ref ad), (5, .int (nI i))]) hxe hcd dL_law_1264 hl (by decide) rfl (fun ls hl => ?_)
  refine lv_aload_n hxe hcd dL_law_1266 rfl (lv_at hl 3 rfl) ?_
  refine lv_aload_n hxe hcd dL_law_1267 rfl (lv_at hl 1 rfl) ?_
  refine lv_iload hxe hcd dL_law_1268 (lv_at hl 6 rfl) ?_
  refine lv_iconst (v := (nI 1)) hxe hcd dL_law_1270 (by decide) ?_
  refine n_iadd S (a := i) (b := 1) dL_law_1271 ?_
  refine l_sc S hU hX hbl hbA (j := (i + 1)) (by omega) hL31 dL_law_1272 ?_
  refine l_Ml hZ S hU (As := [.int (xs (i + 1))]) (rest := []) (t_X10_energy l hZ B ν H.size (lnV (ν 1)) hVG.2.2.1 hVG.1.1 hVG.1.2 (psV (ν 1)) hVG.2.2.2.2.2.2.1 (xs (i + 1))) k_L_214 (l_rm hU) hl.1 rfl rfl (Nat.le_of_ble_eq_true rfl) ⟨(Nat.le_of_ble_eq_true rfl), (Nat.le_of_ble_eq_true rfl)⟩ ⟨hc, hs⟩ dL_law_1273 (fun rb ω H locs hM hU => ?_)
  obtain ⟨hCR2, hA2, hth, hres⟩ := j_energy hCR hkr hc8 hch hHR  (v := ν 1) rfl hC hM
  refine lv_lstore (lv' := [(7, .long rb), (6, .int r), (0, .ref b), (1, .ref (A (0, 14))), (2, .ref (B 0)), (3, .ref aj), (4, .ref ad), (5, .int (nI i))]) hxe hcd dL_law_1276 hl (by decide) rfl (fun ls hl => ?_)
  refine lv_aload_n hxe hcd dL_law_1278 rfl (lv_at hl 4 rfl) ?_
  refine l_T hZ S hU (As := []) (rest := []) (t_X10_thrown l hZ B ω H.size) k_L_158 (l_rm hU) hl.1 rfl rfl (Nat.le_of_ble_eq_true rfl) ⟨(Nat.le_of_ble_eq_true rfl), (Nat.le_of_ble_eq_true rfl)⟩ ⟨hc, hs⟩ dL_law_1279 (fun r3 H locs h3 hU => ?_)
  have h3 := h3.symm
  subst h3
  refine r_as hth ?_
  refine lv_iload hxe hcd dL_law_1282 (lv_at hl 1 rfl) ?_
  refine lv_icmp_eq (tgt := 1289) hxe hcd dL_law_1284 (by decide) (fun _ => ?_) (fun h => absurd rfl h)
  refine lv_iload hxe hcd dL_law_1289 (lv_at hl 1 rfl) ?_
  refine lv_if_ne (tgt := 1305) hxe hcd dL_law_1291 (by decide) (fun hk => ?_) (fun hk => ?_)
  · refine lv_goto (tgt := 2709) hxe hcd dL_law_1305 (by decide) ?_
    exact kk u.1 ω u.2 fd H locs ls hU hCR2 hA2 (lv_sub hl [2, 3, 4, 5, 6, 7] rfl)
  · have hres := hres hk
    refine lv_aload_n hxe hcd dL_law_1294 rfl (lv_at hl 5 rfl) ?_
    refine lv_iconst (v := (nI 0)) hxe hcd dL_law_1295 (by decide) ?_
    refine l_jld S hU dL_law_1296 ?_
    refine lv_lload hxe hcd dL_law_1297 (lv_at hl 0 rfl) ?_
    refine W.lcmp hxe hcd dL_law_1299 ?_
    refine r_as (y := 0) (by rw [hres]; exact lgc_self _) ?_
    refine lv_if_eq (tgt := 1305) hxe hcd dL_law_1300 (by decide) (fun _ => ?_) (fun h => absurd rfl h)
    refine lv_goto (tgt := 2709) hxe hcd dL_law_1305 (by decide) ?_
    exact kk u.1 ω u.2 fd H locs ls hU hCR2 hA2 (lv_sub hl [2, 3, 4, 5, 6, 7] rfl)
