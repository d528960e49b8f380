set_option maxHeartbeats 4000000 in
set_option maxRecDepth 100000 in
theorem t_L_addFilter (l : Launch) (hl0 : l.stackTraces = false) {Z : ZT} (hZ : zOK Z) (hZX : ZX Z) (hNC : XNC Z) (ao : Nat) (f : Nat → Int64) (A : Nat × Nat → Nat) (g : Nat → Bool) (μ : CM) (sz : Nat) {v : Nat → Int32} (hVG : VG v) (hR : RP (μ 0) v) {kr cn : Nat} (hkr : kr < 8) (hk15 : μ 0 15 1 = nI kr) (hcn : μ 0 15 2 = nI cn) (hc8 : cn ≤ 8) (k x : Int32) : XW l yL_addFilter cL_addFilter 5 [(0, 10, 13, 13), (0, 10, 17, 15)] [.ref (A (0, 14)), .int k, .int x, .ref ao] Z ao (oJ Z) f (g, A, μ) sz (fun r u => (r = nI 0 ∧ ∃ x9 : Int32, (fun r u => KP k x ∧ nfV v < 8 ∧ r = nI (nfV v + 1) ∧ CHG g A μ kr cn v (insV v (nfV v) (nfV v) k x) u) x9 u.1 ∧ u.2 0 = x9.toInt64) ∨ ∃ n9 : Nat, (fun n u => SM g A μ u ∧ ((n = 2 ∧ ¬ KP k x) ∨ (n = 3 ∧ KP k x ∧ ¬ nfV v < 8))) n9 u.1 ∧ ((n9 = 2 ∧ r = nI 1) ∨ (n9 = 3 ∧ r = nI 2))) := by
  refine u_met (ws := uW Z ao (oJ Z f) (g, A, μ)) (by decide +kernel) (Nat.le_of_ble_eq_true rfl) ?_
  intro p e s m below meth c ls S hr hlk htab hsz hW hl
  have hxe := S.1
  have hcd := S.2.1
  subst hsz
  have hl : lv_has ls 5 [(0, .ref (A (0, 14))), (1, .int k), (2, .int x), (3, .ref ao)] := hl
  refine lv_aload_n hxe hcd dL_addFilter_0 rfl (lv_at hl 3 rfl) ?_
  refine lv_iconst (v := (nI 0)) hxe hcd dL_addFilter_1 (by decide) ?_
  refine lv_aload_n hxe hcd dL_addFilter_2 rfl (lv_at hl 0 rfl) ?_
  refine lv_iload_n hxe hcd dL_addFilter_3 rfl (lv_at hl 1 rfl) ?_
  refine lv_iload_n hxe hcd dL_addFilter_4 rfl (lv_at hl 2 rfl) ?_
  refine u_calli hZ S (wr := [(ao, oJ Z f)]) (v := (g, A, μ)) hW (As := [.int k, .int x]) (rest := [.int (nI 0), .ref ao]) (t_X9_addFilter l hl0 hZ hZX A g μ s.heap.size hVG hR hkr hk15 hcn hc8 k x) k_L_7 (r_recv (u_X (wr := [(ao, oJ Z f)]) (v := (g, A, μ)) hW) (x := (0, 14)) (in_r (by decide) (by decide)) rfl rfl) hl.1 rfl rfl (Nat.le_of_ble_eq_true rfl) ⟨(Nat.le_of_ble_eq_true rfl), (Nat.le_of_ble_eq_true rfl)⟩ ⟨(Nat.le_of_ble_eq_true rfl), (Nat.le_of_ble_eq_true rfl)⟩ dL_addFilter_5 (fun n u H locs q9 ce hpx hW h7 h8 h9 => ?_) (fun r u H locs hp hW => ?_)
  · have hpx2 := hpx
    rcases hpx2.2 with ⟨rfl, hc⟩ | ⟨rfl, hc⟩
    · refine vx_catch (E := "java/lang/IllegalArgumentException") (name := "java/lang/IllegalArgumentException") S.2.2.2.1 [] ⟨0, 10, 13, 13⟩ [⟨0, 10, 17, 15⟩] htab (fun _ h => absurd h List.not_mem_nil) (by decide) (by decide) (S.2.2.2.2 _ g_539) (tw_bef hZ hW.2.2.2.2.2 S.2.2.2.2 (Or.inr n_631)) h7 h8 h9 ?_
      refine lv_astore (lv' := [(4, .ref q9), (0, .ref (A (0, 14))), (1, .int k), (2, .int x), (3, .ref ao)]) hxe hcd dL_addFilter_13 hl (by decide) rfl (fun ls hl => ?_)
      refine lv_iconst (v := (nI 1)) hxe hcd dL_addFilter_15 (by decide) ?_
      exact u_ret S hr hlk (F := fun (u : GM × (Nat → Int64)) => uW Z ao (oJ Z u.2) u.1) (u, f) hW (Nat.le_of_ble_eq_true rfl) (Nat.le_of_ble_eq_true rfl) (Or.inr ⟨2, hpx, Or.inl ⟨rfl, rfl⟩⟩) dL_addFilter_16
    · refine vx_catch (E := "java/lang/IllegalStateException") (name := "java/lang/IllegalStateException") S.2.2.2.1 [⟨0, 10, 13, 13⟩] ⟨0, 10, 17, 15⟩ [] htab (List.forall_mem_cons.mpr ⟨Or.inr ⟨by decide, "java/lang/IllegalArgumentException", S.2.2.2.2 _ g_539, hNC _ _ _ hW.2.2.2.2.2 ("java/lang/IllegalStateException", "java/lang/IllegalArgumentException") (List.mem_of_getElem? (i := 0) rfl)⟩, (fun _ h => absurd h List.not_mem_nil)⟩) (by decide) (by decide) (S.2.2.2.2 _ g_540) (tw_bef hZ hW.2.2.2.2.2 S.2.2.2.2 (Or.inr n_647)) h7 h8 h9 ?_
      refine lv_astore (lv' := [(4, .ref q9), (0, .ref (A (0, 14))), (1, .int k), (2, .int x), (3, .ref ao)]) hxe hcd dL_addFilter_17 hl (by decide) rfl (fun ls hl => ?_)
      refine lv_iconst (v := (nI 2)) hxe hcd dL_addFilter_19 (by decide) ?_
      exact u_ret S hr hlk (F := fun (u : GM × (Nat → Int64)) => uW Z ao (oJ Z u.2) u.1) (u, f) hW (Nat.le_of_ble_eq_true rfl) (Nat.le_of_ble_eq_true rfl) (Or.inr ⟨3, hpx, Or.inr ⟨rfl, rfl⟩⟩) dL_addFilter_20
  · refine lv_i2l (v := r.toInt64) hxe hcd dL_addFilter_8 rfl ?_
    refine u_lst S hW dL_addFilter_9 (fun H locs f2 hf2 hW => ?_)
    refine lv_goto (tgt := 21) hxe hcd dL_addFilter_10 (by decide) ?_
    refine lv_iconst (v := (nI 0)) hxe hcd dL_addFilter_21 (by decide) ?_
    exact u_ret S hr hlk (F := fun (u : GM × (Nat → Int64)) => uW Z ao (oJ Z u.2) u.1) (u, f2) hW (Nat.le_of_ble_eq_true rfl) (Nat.le_of_ble_eq_true rfl) (Or.inl ⟨rfl, r, hp, hf2⟩) dL_addFilter_22
set_option maxHeartbeats 4000000 in
set_option maxRecDepth 100000 in
theorem t_L_insertFilter (l : Launch) (hl0 : l.stackTraces = false) {Z : ZT} (hZ : zOK Z) (hZX : ZX Z) (hNC : XNC Z) (ao : Nat) (f : Nat → Int64) (A : Nat × Nat → Nat) (g : Nat → Bool) (μ : CM) (sz : Nat) {v : Nat → Int32} (hVG : VG v) (hR : RP (μ 0) v) {kr cn : Nat} (hkr : kr < 8) (hk15 : μ 0 15 1 = nI kr) (hcn : μ 0 15 2 = nI cn) (hc8 : cn ≤ 8) (y k x : Int32) : XW l yL_insertFilter cL_insertFilter 6 [(0, 12, 15, 21), (0, 12, 19, 13), (0, 12, 23, 15)] [.ref (A (0, 14)), .int y, .int k, .int x, .ref ao] Z ao (oJ Z) f (g, A, μ) sz (fun r u => (r = nI 0 ∧ ∃ x9 : Int32, (fun r u => ∃ q, q < nfV v + 1 ∧ y = nI q ∧ KP k x ∧ nfV v < 8 ∧ r = nI (nfV v + 1) ∧ CHG g A μ kr cn v (insV v q (nfV v) k x) u) x9 u.1 ∧ u.2 0 = x9.toInt64) ∨ ∃ n9 : Nat, (fun n u => SM g A μ u ∧ ((n = 1 ∧ ¬ IX y (nfV v + 1)) ∨ (n = 2 ∧ IX y (nfV v + 1) ∧ ¬ KP k x) ∨ (n = 3 ∧ IX y (nfV v + 1) ∧ KP k x ∧ ¬ nfV v < 8))) n9 u.1 ∧ ((n9 = 1 ∧ r = nI 1) ∨ (n9 = 2 ∧ r = nI 2) ∨ (n9 = 3 ∧ r = nI 3))) := by
  refine u_met (ws := uW Z ao (oJ Z f) (g, A, μ)) (by decide +kernel) (Nat.le_of_ble_eq_true rfl) ?_
  intro p e s m below meth c ls S hr hlk htab hsz hW hl
  have hxe := S.1
  have hcd := S.2.1
  subst hsz
  have hl : lv_has ls 6 [(0, .ref (A (0, 14))), (1, .int y), (2, .int k), (3, .int x), (4, .ref ao)] := hl
  refine lv_aload hxe hcd dL_insertFilter_0 (lv_at hl 4 rfl) ?_
  refine lv_iconst (v := (nI 0)) hxe hcd dL_insertFilter_2 (by decide) ?_
  refine lv_aload_n hxe hcd dL_insertFilter_3 rfl (lv_at hl 0 rfl) ?_
  refine lv_iload_n hxe hcd dL_insertFilter_4 rfl (lv_at hl 1 rfl) ?_
  refine lv_iload_n hxe hcd dL_insertFilter_5 rfl (lv_at hl 2 rfl) ?_
  refine lv_iload_n hxe hcd dL_insertFilter_6 rfl (lv_at hl 3 rfl) ?_
  refine u_calli hZ S (wr := [(ao, oJ Z f)]) (v := (g, A, μ)) hW (As := [.int y, .int k, .int x]) (rest := [.int (nI 0), .ref ao]) (t_X9_insertFilter l hl0 hZ hZX A g μ s.heap.size hVG hR hkr hk15 hcn hc8 y k x) k_L_17 (r_recv (u_X (wr := [(ao, oJ Z f)]) (v := (g, A, μ)) hW) (x := (0, 14)) (in_r (by decide) (by decide)) rfl rfl) hl.1 rfl rfl (Nat.le_of_ble_eq_true rfl) ⟨(Nat.le_of_ble_eq_true rfl), (Nat.le_of_ble_eq_true rfl)⟩ ⟨(Nat.le_of_ble_eq_true rfl), (Nat.le_of_ble_eq_true rfl)⟩ dL_insertFilter_7 (fun n u H locs q9 ce hpx hW h7 h8 h9 => ?_) (fun r u H locs hp hW => ?_)
  · have hpx2 := hpx
    rcases hpx2.2 with ⟨rfl, hc⟩ | ⟨rfl, hc⟩ | ⟨rfl, hc⟩
    · refine vx_catch (E := "java/lang/IndexOutOfBoundsException") (name := "java/lang/IndexOutOfBoundsException") S.2.2.2.1 [] ⟨0, 12, 15, 21⟩ [⟨0, 12, 19, 13⟩, ⟨0, 12, 23, 15⟩] htab (fun _ h => absurd h List.not_mem_nil) (by decide) (by decide) (S.2.2.2.2 _ g_702) (tw_bef hZ hW.2.2.2.2.2 S.2.2.2.2 (Or.inr n_560)) h7 h8 h9 ?_
      refine lv_astore (lv' := [(5, .ref q9), (0, .ref (A (0, 14))), (1, .int y), (2, .int k), (3, .int x), (4, .ref ao)]) hxe hcd dL_insertFilter_15 hl (by decide) rfl (fun ls hl => ?_)
      refine lv_iconst (v := (nI 1)) hxe hcd dL_insertFilter_17 (by decide) ?_
      exact u_ret S hr hlk (F := fun (u : GM × (Nat → Int64)) => uW Z ao (oJ Z u.2) u.1) (u, f) hW (Nat.le_of_ble_eq_true rfl) (Nat.le_of_ble_eq_true rfl) (Or.inr ⟨1, hpx, Or.inl ⟨rfl, rfl⟩⟩) dL_insertFilter_18
    · refine vx_catch (E := "java/lang/IllegalArgumentException") (name := "java/lang/IllegalArgumentException") S.2.2.2.1 [⟨0, 12, 15, 21⟩] ⟨0, 12, 19, 13⟩ [⟨0, 12, 23, 15⟩] htab (List.forall_mem_cons.mpr ⟨Or.inr ⟨by decide, "java/lang/IndexOutOfBoundsException", S.2.2.2.2 _ g_702, hNC _ _ _ hW.2.2.2.2.2 ("java/lang/IllegalArgumentException", "java/lang/IndexOutOfBoundsException") (List.mem_of_getElem? (i := 1) rfl)⟩, (fun _ h => absurd h List.not_mem_nil)⟩) (by decide) (by decide) (S.2.2.2.2 _ g_539) (tw_bef hZ hW.2.2.2.2.2 S.2.2.2.2 (Or.inr n_631)) h7 h8 h9 ?_
      refine lv_astore (lv' := [(5, .ref q9), (0, .ref (A (0, 14))), (1, .int y), (2, .int k), (3, .int x), (4, .ref ao)]) hxe hcd dL_insertFilter_19 hl (by decide) rfl (fun ls hl => ?_)
      refine lv_iconst (v := (nI 2)) hxe hcd dL_insertFilter_21 (by decide) ?_
      exact u_ret S hr hlk (F := fun (u : GM × (Nat → Int64)) => uW Z ao (oJ Z u.2) u.1) (u, f) hW (Nat.le_of_ble_eq_true rfl) (Nat.le_of_ble_eq_true rfl) (Or.inr ⟨2, hpx, Or.inr (Or.inl ⟨rfl, rfl⟩)⟩) dL_insertFilter_22
    · refine vx_catch (E := "java/lang/IllegalStateException") (name := "java/lang/IllegalStateException") S.2.2.2.1 [⟨0, 12, 15, 21⟩, ⟨0, 12, 19, 13⟩] ⟨0, 12, 23, 15⟩ [] htab (List.forall_mem_cons.mpr ⟨Or.inr ⟨by decide, "java/lang/IndexOutOfBoundsException", S.2.2.2.2 _ g_702, hNC _ _ _ hW.2.2.2.2.2 ("java/lang/IllegalStateException", "java/lang/IndexOutOfBoundsException") (List.mem_of_getElem? (i := 2) rfl)⟩, (List.forall_mem_cons.mpr ⟨Or.inr ⟨by decide, "java/lang/IllegalArgumentException", S.2.2.2.2 _ g_539, hNC _ _ _ hW.2.2.2.2.2 ("java/lang/IllegalStateException", "java/lang/IllegalArgumentException") (List.mem_of_getElem? (i := 0) rfl)⟩, (fun _ h => absurd h List.not_mem_nil)⟩)⟩) (by decide) (by decide) (S.2.2.2.2 _ g_540) (tw_bef hZ hW.2.2.2.2.2 S.2.2.2.2 (Or.inr n_647)) h7 h8 h9 ?_
      refine lv_astore (lv' := [(5, .ref q9), (0, .ref (A (0, 14))), (1, .int y), (2, .int k), (3, .int x), (4, .ref ao)]) hxe hcd dL_insertFilter_23 hl (by decide) rfl (fun ls hl => ?_)
      refine lv_iconst (v := (nI 3)) hxe hcd dL_insertFilter_25 (by decide) ?_
      exact u_ret S hr hlk (F := fun (u : GM × (Nat → Int64)) => uW Z ao (oJ Z u.2) u.1) (u, f) hW (Nat.le_of_ble_eq_true rfl) (Nat.le_of_ble_eq_true rfl) (Or.inr ⟨3, hpx, Or.inr (Or.inr ⟨rfl, rfl⟩)⟩) dL_insertFilter_26
  · refine lv_i2l (v := r.toInt64) hxe hcd dL_insertFilter_10 rfl ?_
    refine u_lst S hW dL_insertFilter_11 (fun H locs f2 hf2 hW => ?_)
    refine lv_goto (tgt := 27) hxe hcd dL_insertFilter_12 (by decide) ?_
    refine lv_iconst (v := (nI 0)) hxe hcd dL_insertFilter_27 (by decide) ?_
    exact u_ret S hr hlk (F := fun (u : GM × (Nat → Int64)) => uW Z ao (oJ Z u.2) u.1) (u, f2) hW (Nat.le_of_ble_eq_true rfl) (Nat.le_of_ble_eq_true rfl) (Or.inl ⟨rfl, r, hp, hf2⟩) dL_insertFilter_28
set_option maxHeartbeats 4000000 in
set_option maxRecDepth 100000 in
theorem t_L_removeFilter (l : Launch) (hl0 : l.stackTraces = false) {Z : ZT} (hZ : zOK Z) (hZX : ZX Z) (hNC : XNC Z) (ao : Nat) (f : Nat → Int64) (A : Nat × Nat → Nat) (g : Nat → Bool) (μ : CM) (sz : Nat) {v : Nat → Int32} (hVG : VG v) (hR : RP (μ 0) v) {kr cn : Nat} (hkr : kr < 8) (hk15 : μ 0 15 1 = nI kr) (hcn : μ 0 15 2 = nI cn) (hc8 : cn ≤ 8) (x : Int32) : XW l yL_removeFilter cL_removeFilter 4 [(0, 9, 12, 21)] [.ref (A (0, 14)), .int x, .ref ao] Z ao (oJ Z) f (g, A, μ) sz (fun r u => (r = nI 0 ∧ ∃ x9 : Int32, (fun r u => ∃ q, q < nfV v ∧ x = nI q ∧ r = v (13 + q) ∧ CHG g A μ kr cn v (delV v q (nfV v)) u) x9 u.1 ∧ u.2 0 = x9.toInt64) ∨ ∃ n9 : Nat, (fun n u => SM g A μ u ∧ ((n = 1 ∧ ¬ IX x (nfV v)))) n9 u.1 ∧ ((n9 = 1 ∧ r = nI 1))) := by
  refine u_met (ws := uW Z ao (oJ Z f) (g, A, μ)) (by decide +kernel) (Nat.le_of_ble_eq_true rfl) ?_
  intro p e s m below meth c ls S hr hlk htab hsz hW hl
  have hxe := S.1
  have hcd := S.2.1
  subst hsz
  have hl : lv_has ls 4 [(0, .ref (A (0, 14))), (1, .int x), (2, .ref ao)] := hl
  refine lv_aload_n hxe hcd dL_removeFilter_0 rfl (lv_at hl 2 rfl) ?_
  refine lv_iconst (v := (nI 0)) hxe hcd dL_removeFilter_1 (by decide) ?_
  refine lv_aload_n hxe hcd dL_removeFilter_2 rfl (lv_at hl 0 rfl) ?_
  refine lv_iload_n hxe hcd dL_removeFilter_3 rfl (lv_at hl 1 rfl) ?_
  refine u_calli hZ S (wr := [(ao, oJ Z f)]) (v := (g, A, μ)) hW (As := [.int x]) (rest := [.int (nI 0), .ref ao]) (t_X9_removeFilter l hl0 hZ hZX A g μ s.heap.size hVG hR hkr hk15 hcn hc8 x) k_L_23 (r_recv (u_X (wr := [(ao, oJ Z f)]) (v := (g, A, μ)) hW) (x := (0, 14)) (in_r (by decide) (by decide)) rfl rfl) hl.1 rfl rfl (Nat.le_of_ble_eq_true rfl) ⟨(Nat.le_of_ble_eq_true rfl), (Nat.le_of_ble_eq_true rfl)⟩ ⟨(Nat.le_of_ble_eq_true rfl), (Nat.le_of_ble_eq_true rfl)⟩ dL_removeFilter_4 (fun n u H locs q9 ce hpx hW h7 h8 h9 => ?_) (fun r u H locs hp hW => ?_)
  · have hpx2 := hpx
    obtain ⟨rfl, hc⟩ := hpx2.2
    refine vx_catch (E := "java/lang/IndexOutOfBoundsException") (name := "java/lang/IndexOutOfBoundsException") S.2.2.2.1 [] ⟨0, 9, 12, 21⟩ [] htab (fun _ h => absurd h List.not_mem_nil) (by decide) (by decide) (S.2.2.2.2 _ g_702) (tw_bef hZ hW.2.2.2.2.2 S.2.2.2.2 (Or.inr n_560)) h7 h8 h9 ?_
    refine lv_astore_n (lv' := [(3, .ref q9), (0, .ref (A (0, 14))), (1, .int x), (2, .ref ao)]) hxe hcd dL_removeFilter_12 rfl hl (by decide) rfl (fun ls hl => ?_)
    refine lv_iconst (v := (nI 1)) hxe hcd dL_removeFilter_13 (by decide) ?_
    exact u_ret S hr hlk (F := fun (u : GM × (Nat → Int64)) => uW Z ao (oJ Z u.2) u.1) (u, f) hW (Nat.le_of_ble_eq_true rfl) (Nat.le_of_ble_eq_true rfl) (Or.inr ⟨1, hpx, ⟨rfl, rfl⟩⟩) dL_removeFilter_14
  · refine lv_i2l (v := r.toInt64) hxe hcd dL_removeFilter_7 rfl ?_
    refine u_lst S hW dL_removeFilter_8 (fun H locs f2 hf2 hW => ?_)
    refine lv_goto (tgt := 15) hxe hcd dL_removeFilter_9 (by decide) ?_
    refine lv_iconst (v := (nI 0)) hxe hcd dL_removeFilter_15 (by decide) ?_
    exact u_ret S hr hlk (F := fun (u : GM × (Nat → Int64)) => uW Z ao (oJ Z u.2) u.1) (u, f2) hW (Nat.le_of_ble_eq_true rfl) (Nat.le_of_ble_eq_true rfl) (Or.inl ⟨rfl, r, hp, hf2⟩) dL_removeFilter_16
set_option maxHeartbeats 4000000 in
set_option maxRecDepth 100000 in
theorem t_L_swapFilters (l : Launch) (hl0 : l.stackTraces = false) {Z : ZT} (hZ : zOK Z) (hZX : ZX Z) (hNC : XNC Z) (ao : Nat) (f : Nat → Int64) (A : Nat × Nat → Nat) (g : Nat → Bool) (μ : CM) (sz : Nat) {v : Nat → Int32} (hVG : VG v) (hR : RP (μ 0) v) {kr cn : Nat} (hkr : kr < 8) (hk15 : μ 0 15 1 = nI kr) (hcn : μ 0 15 2 = nI cn) (hc8 : cn ≤ 8) (x y : Int32) : XW l yL_swapFilters cL_swapFilters 5 [(0, 10, 13, 21)] [.ref (A (0, 14)), .int x, .int y, .ref ao] Z ao (oJ Z) f (g, A, μ) sz (fun r u => (r = nI 0 ∧ ∃ x9 : Int32, (fun r u => ∃ q q2, q < nfV v ∧ q2 < nfV v ∧ x = nI q ∧ y = nI q2 ∧ r = nI (dsN q q2) ∧ CHG g A μ kr cn v (swV v q q2) u) x9 u.1 ∧ u.2 0 = x9.toInt64) ∨ ∃ n9 : Nat, (fun n u => SM g A μ u ∧ ((n = 1 ∧ ¬ (IX x (nfV v) ∧ IX y (nfV v))))) n9 u.1 ∧ ((n9 = 1 ∧ r = nI 1))) := by
  refine u_met (ws := uW Z ao (oJ Z f) (g, A, μ)) (by decide +kernel) (Nat.le_of_ble_eq_true rfl) ?_
  intro p e s m below meth c ls S hr hlk htab hsz hW hl
  have hxe := S.1
  have hcd := S.2.1
  subst hsz
  have hl : lv_has ls 5 [(0, .ref (A (0, 14))), (1, .int x), (2, .int y), (3, .ref ao)] := hl
  refine lv_aload_n hxe hcd dL_swapFilters_0 rfl (lv_at hl 3 rfl) ?_
  refine lv_iconst (v := (nI 0)) hxe hcd dL_swapFilters_1 (by decide) ?_
  refine lv_aload_n hxe hcd dL_swapFilters_2 rfl (lv_at hl 0 rfl) ?_
  refine lv_iload_n hxe hcd dL_swapFilters_3 rfl (lv_at hl 1 rfl) ?_
  refine lv_iload_n hxe hcd dL_swapFilters_4 rfl (lv_at hl 2 rfl) ?_
  refine u_calli hZ S (wr := [(ao, oJ Z f)]) (v := (g, A, μ)) hW (As := [.int x, .int y]) (rest := [.int (nI 0), .ref ao]) (t_X9_swapFilters l hl0 hZ hZX A g μ s.heap.size hVG hR hkr hk15 hcn hc8 x y) k_L_27 (r_recv (u_X (wr := [(ao, oJ Z f)]) (v := (g, A, μ)) hW) (x := (0, 14)) (in_r (by decide) (by decide)) rfl rfl) hl.1 rfl rfl (Nat.le_of_ble_eq_true rfl) ⟨(Nat.le_of_ble_eq_true rfl), (Nat.le_of_ble_eq_true rfl)⟩ ⟨(Nat.le_of_ble_eq_true rfl), (Nat.le_of_ble_eq_true rfl)⟩ dL_swapFilters_5 (fun n u H locs q9 ce hpx hW h7 h8 h9 => ?_) (fun r u H locs hp hW => ?_)
  · have hpx2 := hpx
    obtain ⟨rfl, hc⟩ := hpx2.2
    refine vx_catch (E := "java/lang/IndexOutOfBoundsException") (name := "java/lang/IndexOutOfBoundsException") S.2.2.2.1 [] ⟨0, 10, 13, 21⟩ [] htab (fun _ h => absurd h List.not_mem_nil) (by decide) (by decide) (S.2.2.2.2 _ g_702) (tw_bef hZ hW.2.2.2.2.2 S.2.2.2.2 (Or.inr n_560)) h7 h8 h9 ?_
    refine lv_astore (lv' := [(4, .ref q9), (0, .ref (A (0, 14))), (1, .int x), (2, .int y), (3, .ref ao)]) hxe hcd dL_swapFilters_13 hl (by decide) rfl (fun ls hl => ?_)
    refine lv_iconst (v := (nI 1)) hxe hcd dL_swapFilters_15 (by decide) ?_
    exact u_ret S hr hlk (F := fun (u : GM × (Nat → Int64)) => uW Z ao (oJ Z u.2) u.1) (u, f) hW (Nat.le_of_ble_eq_true rfl) (Nat.le_of_ble_eq_true rfl) (Or.inr ⟨1, hpx, ⟨rfl, rfl⟩⟩) dL_swapFilters_16
  · refine lv_i2l (v := r.toInt64) hxe hcd dL_swapFilters_8 rfl ?_
    refine u_lst S hW dL_swapFilters_9 (fun H locs f2 hf2 hW => ?_)
    refine lv_goto (tgt := 17) hxe hcd dL_swapFilters_10 (by decide) ?_
    refine lv_iconst (v := (nI 0)) hxe hcd dL_swapFilters_17 (by decide) ?_
    exact u_ret S hr hlk (F := fun (u : GM × (Nat → Int64)) => uW Z ao (oJ Z u.2) u.1) (u, f2) hW (Nat.le_of_ble_eq_true rfl) (Nat.le_of_ble_eq_true rfl) (Or.inl ⟨rfl, r, hp, hf2⟩) dL_swapFilters_18
set_option maxHeartbeats 4000000 in
set_option maxRecDepth 100000 in
theorem t_L_filterKind (l : Launch) (hl0 : l.stackTraces = false) {Z : ZT} (hZ : zOK Z) (hZX : ZX Z) (hNC : XNC Z) (ao : Nat) (f : Nat → Int64) (A : Nat × Nat → Nat) (g : Nat → Bool) (μ : CM) (sz : Nat) {v : Nat → Int32} (hVG : VG v) (hR : RP (μ 0) v) (x : Int32) : XW l yL_filterKind cL_filterKind 4 [(0, 9, 12, 21)] [.ref (A (0, 14)), .int x, .ref ao] Z ao (oJ Z) f (g, A, μ) sz (fun r u => (r = nI 0 ∧ ∃ x9 : Int32, (fun r u => ∃ q, q < nfV v ∧ x = nI q ∧ r = v (5 + q) ∧ SM g A μ u) x9 u.1 ∧ u.2 0 = x9.toInt64) ∨ ∃ n9 : Nat, (fun n u => SM g A μ u ∧ ((n = 1 ∧ ¬ IX x (nfV v)))) n9 u.1 ∧ ((n9 = 1 ∧ r = nI 1))) := by
  refine u_met (ws := uW Z ao (oJ Z f) (g, A, μ)) (by decide +kernel) (Nat.le_of_ble_eq_true rfl) ?_
  intro p e s m below meth c ls S hr hlk htab hsz hW hl
  have hxe := S.1
  have hcd := S.2.1
  subst hsz
  have hl : lv_has ls 4 [(0, .ref (A (0, 14))), (1, .int x), (2, .ref ao)] := hl
  refine lv_aload_n hxe hcd dL_filterKind_0 rfl (lv_at hl 2 rfl) ?_
  refine lv_iconst (v := (nI 0)) hxe hcd dL_filterKind_1 (by decide) ?_
  refine lv_aload_n hxe hcd dL_filterKind_2 rfl (lv_at hl 0 rfl) ?_
  refine lv_iload_n hxe hcd dL_filterKind_3 rfl (lv_at hl 1 rfl) ?_
  refine u_calli hZ S (wr := [(ao, oJ Z f)]) (v := (g, A, μ)) hW (As := [.int x]) (rest := [.int (nI 0), .ref ao]) (t_X9_filterKind l hl0 hZ hZX A g μ s.heap.size hVG hR x) k_L_31 (r_recv (u_X (wr := [(ao, oJ Z f)]) (v := (g, A, μ)) hW) (x := (0, 14)) (in_r (by decide) (by decide)) rfl rfl) hl.1 rfl rfl (Nat.le_of_ble_eq_true rfl) ⟨(Nat.le_of_ble_eq_true rfl), (Nat.le_of_ble_eq_true rfl)⟩ ⟨(Nat.le_of_ble_eq_true rfl), (Nat.le_of_ble_eq_true rfl)⟩ dL_filterKind_4 (fun n u H locs q9 ce hpx hW h7 h8 h9 => ?_) (fun r u H locs hp hW => ?_)
  · have hpx2 := hpx
    obtain ⟨rfl, hc⟩ := hpx2.2
    refine vx_catch (E := "java/lang/IndexOutOfBoundsException") (name := "java/lang/IndexOutOfBoundsException") S.2.2.2.1 [] ⟨0, 9, 12, 21⟩ [] htab (fun _ h => absurd h List.not_mem_nil) (by decide) (by decide) (S.2.2.2.2 _ g_702) (tw_bef hZ hW.2.2.2.2.2 S.2.2.2.2 (Or.inr n_560)) h7 h8 h9 ?_
    refine lv_astore_n (lv' := [(3, .ref q9), (0, .ref (A (0, 14))), (1, .int x), (2, .ref ao)]) hxe hcd dL_filterKind_12 rfl hl (by decide) rfl (fun ls hl => ?_)
    refine lv_iconst (v := (nI 1)) hxe hcd dL_filterKind_13 (by decide) ?_
    exact u_ret S hr hlk (F := fun (u : GM × (Nat → Int64)) => uW Z ao (oJ Z u.2) u.1) (u, f) hW (Nat.le_of_ble_eq_true rfl) (Nat.le_of_ble_eq_true rfl) (Or.inr ⟨1, hpx, ⟨rfl, rfl⟩⟩) dL_filterKind_14
  · refine lv_i2l (v := r.toInt64) hxe hcd dL_filterKind_7 rfl ?_
    refine u_lst S hW dL_filterKind_8 (fun H locs f2 hf2 hW => ?_)
    refine lv_goto (tgt := 15) hxe hcd dL_filterKind_9 (by decide) ?_
    refine lv_iconst (v := (nI 0)) hxe hcd dL_filterKind_15 (by decide) ?_
    exact u_ret S hr hlk (F := fun (u : GM × (Nat → Int64)) => uW Z ao (oJ Z u.2) u.1) (u, f2) hW (Nat.le_of_ble_eq_true rfl) (Nat.le_of_ble_eq_true rfl) (Or.inl ⟨rfl, r, hp, hf2⟩) dL_filterKind_16
set_option maxHeartbeats 4000000 in
set_option maxRecDepth 100000 in
theorem t_L_filterParameter (l : Launch) (hl0 : l.stackTraces = false) {Z : ZT} (hZ : zOK Z) (hZX : ZX Z) (hNC : XNC Z) (ao : Nat) (f : Nat → Int64) (A : Nat × Nat → Nat) (g : Nat → Bool) (μ : CM) (sz : Nat) {v : Nat → Int32} (hVG : VG v) (hR : RP (μ 0) v) (x : Int32) : XW l yL_filterParameter cL_filterParameter 4 [(0, 9, 12, 21)] [.ref (A (0, 14)), .int x, .ref ao] Z ao (oJ Z) f (g, A, μ) sz (fun r u => (r = nI 0 ∧ ∃ x9 : Int32, (fun r u => ∃ q, q < nfV v ∧ x = nI q ∧ r = v (13 + q) ∧ SM g A μ u) x9 u.1 ∧ u.2 0 = x9.toInt64) ∨ ∃ n9 : Nat, (fun n u => SM g A μ u ∧ ((n = 1 ∧ ¬ IX x (nfV v)))) n9 u.1 ∧ ((n9 = 1 ∧ r = nI 1))) := by
  refine u_met (ws := uW Z ao (oJ Z f) (g, A, μ)) (by decide +kernel) (Nat.le_of_ble_eq_true rfl) ?_
  intro p e s m below meth c ls S hr hlk htab hsz hW hl
  have hxe := S.1
  have hcd := S.2.1
  subst hsz
  have hl : lv_has ls 4 [(0, .ref (A (0, 14))), (1, .int x), (2, .ref ao)] := hl
  refine lv_aload_n hxe hcd dL_filterParameter_0 rfl (lv_at hl 2 rfl) ?_
  refine lv_iconst (v := (nI 0)) hxe hcd dL_filterParameter_1 (by decide) ?_
  refine lv_aload_n hxe hcd dL_filterParameter_2 rfl (lv_at hl 0 rfl) ?_
  refine lv_iload_n hxe hcd dL_filterParameter_3 rfl (lv_at hl 1 rfl) ?_
  refine u_calli hZ S (wr := [(ao, oJ Z f)]) (v := (g, A, μ)) hW (As := [.int x]) (rest := [.int (nI 0), .ref ao]) (t_X9_filterParameter l hl0 hZ hZX A g μ s.heap.size hVG hR x) k_L_35 (r_recv (u_X (wr := [(ao, oJ Z f)]) (v := (g, A, μ)) hW) (x := (0, 14)) (in_r (by decide) (by decide)) rfl rfl) hl.1 rfl rfl (Nat.le_of_ble_eq_true rfl) ⟨(Nat.le_of_ble_eq_true rfl), (Nat.le_of_ble_eq_true rfl)⟩ ⟨(Nat.le_of_ble_eq_true rfl), (Nat.le_of_ble_eq_true rfl)⟩ dL_filterParameter_4 (fun n u H locs q9 ce hpx hW h7 h8 h9 => ?_) (fun r u H locs hp hW => ?_)
  · have hpx2 := hpx
    obtain ⟨rfl, hc⟩ := hpx2.2
    refine vx_catch (E := "java/lang/IndexOutOfBoundsException") (name := "java/lang/IndexOutOfBoundsException") S.2.2.2.1 [] ⟨0, 9, 12, 21⟩ [] htab (fun _ h => absurd h List.not_mem_nil) (by decide) (by decide) (S.2.2.2.2 _ g_702) (tw_bef hZ hW.2.2.2.2.2 S.2.2.2.2 (Or.inr n_560)) h7 h8 h9 ?_
    refine lv_astore_n (lv' := [(3, .ref q9), (0, .ref (A (0, 14))), (1, .int x), (2, .ref ao)]) hxe hcd dL_filterParameter_12 rfl hl (by decide) rfl (fun ls hl => ?_)
    refine lv_iconst (v := (nI 1)) hxe hcd dL_filterParameter_13 (by decide) ?_
    exact u_ret S hr hlk (F := fun (u : GM × (Nat → Int64)) => uW Z ao (oJ Z u.2) u.1) (u, f) hW (Nat.le_of_ble_eq_true rfl) (Nat.le_of_ble_eq_true rfl) (Or.inr ⟨1, hpx, ⟨rfl, rfl⟩⟩) dL_filterParameter_14
  · refine lv_i2l (v := r.toInt64) hxe hcd dL_filterParameter_7 rfl ?_
    refine u_lst S hW dL_filterParameter_8 (fun H locs f2 hf2 hW => ?_)
    refine lv_goto (tgt := 15) hxe hcd dL_filterParameter_9 (by decide) ?_
    refine lv_iconst (v := (nI 0)) hxe hcd dL_filterParameter_15 (by decide) ?_
    exact u_ret S hr hlk (F := fun (u : GM × (Nat → Int64)) => uW Z ao (oJ Z u.2) u.1) (u, f2) hW (Nat.le_of_ble_eq_true rfl) (Nat.le_of_ble_eq_true rfl) (Or.inl ⟨rfl, r, hp, hf2⟩) dL_filterParameter_16
set_option maxHeartbeats 4000000 in
set_option maxRecDepth 100000 in
theorem t_L_addNote (l : Launch) (hl0 : l.stackTraces = false) {Z : ZT} (hZ : zOK Z) (hZX : ZX Z) (hNC : XNC Z) (ao : Nat) (f : Nat → Int64) (A : Nat × Nat → Nat) (g : Nat → Bool) (μ : CM) (sz : Nat) {v : Nat → Int32} (hVG : VG v) (hR : RP (μ 0) v) {kr cn : Nat} (hkr : kr < 8) (hk15 : μ 0 15 1 = nI kr) (hcn : μ 0 15 2 = nI cn) (hc8 : cn ≤ 8) (x y am le : Int32) : XW l yL_addNote cL_addNote 7 [(0, 14, 17, 21), (0, 14, 21, 13), (0, 14, 25, 15)] [.ref (A (0, 14)), .int x, .int y, .int am, .int le, .ref ao] Z ao (oJ Z) f (g, A, μ) sz (fun r u => (r = nI 0 ∧ ∃ x9 : Int32, (fun r u => ∃ q k P, q < 4 ∧ x = nI q ∧ NV y am le ∧ 1 ≤ k ∧ k ≤ 40 ∧ le = nI k ∧ 2 ≤ P ∧ P ≤ 20 ∧ y = nI P ∧ lnV v q + k ≤ 160 ∧ r = nI (lnV v q + k) ∧ CHG g A μ kr cn v (noteV v q (lnV v q) (nnV v q) P am k) u) x9 u.1 ∧ u.2 0 = x9.toInt64) ∨ ∃ n9 : Nat, (fun n u => SM g A μ u ∧ ((n = 1 ∧ ¬ IX x 4) ∨ (n = 2 ∧ IX x 4 ∧ ¬ NV y am le) ∨ (n = 3 ∧ ∃ q k, q < 4 ∧ x = nI q ∧ NV y am le ∧ 1 ≤ k ∧ k ≤ 40 ∧ le = nI k ∧ ¬ lnV v q + k ≤ 160))) n9 u.1 ∧ ((n9 = 1 ∧ r = nI 1) ∨ (n9 = 2 ∧ r = nI 2) ∨ (n9 = 3 ∧ r = nI 3))) := by
  refine u_met (ws := uW Z ao (oJ Z f) (g, A, μ)) (by decide +kernel) (Nat.le_of_ble_eq_true rfl) ?_
  intro p e s m below meth c ls S hr hlk htab hsz hW hl
  have hxe := S.1
  have hcd := S.2.1
  subst hsz
  have hl : lv_has ls 7 [(0, .ref (A (0, 14))), (1, .int x), (2, .int y), (3, .int am), (4, .int le), (5, .ref ao)] := hl
  refine lv_aload hxe hcd dL_addNote_0 (lv_at hl 5 rfl) ?_
  refine lv_iconst (v := (nI 0)) hxe hcd dL_addNote_2 (by decide) ?_
  refine lv_aload_n hxe hcd dL_addNote_3 rfl (lv_at hl 0 rfl) ?_
  refine lv_iload_n hxe hcd dL_addNote_4 rfl (lv_at hl 1 rfl) ?_
  refine lv_iload_n hxe hcd dL_addNote_5 rfl (lv_at hl 2 rfl) ?_
  refine lv_iload_n hxe hcd dL_addNote_6 rfl (lv_at hl 3 rfl) ?_
  refine lv_iload hxe hcd dL_addNote_7 (lv_at hl 4 rfl) ?_
  refine u_calli hZ S (wr := [(ao, oJ Z f)]) (v := (g, A, μ)) hW (As := [.int x, .int y, .int am, .int le]) (rest := [.int (nI 0), .ref ao]) (t_X9_addNote l hl0 hZ hZX A g μ s.heap.size hVG hR hkr hk15 hcn hc8 x y am le) k_L_38 (r_recv (u_X (wr := [(ao, oJ Z f)]) (v := (g, A, μ)) hW) (x := (0, 14)) (in_r (by decide) (by decide)) rfl rfl) hl.1 rfl rfl (Nat.le_of_ble_eq_true rfl) ⟨(Nat.le_of_ble_eq_true rfl), (Nat.le_of_ble_eq_true rfl)⟩ ⟨(Nat.le_of_ble_eq_true rfl), (Nat.le_of_ble_eq_true rfl)⟩ dL_addNote_9 (fun n u H locs q9 ce hpx hW h7 h8 h9 => ?_) (fun r u H locs hp hW => ?_)
  · have hpx2 := hpx
    rcases hpx2.2 with ⟨rfl, hc⟩ | ⟨rfl, hc⟩ | ⟨rfl, hc⟩
    · refine vx_catch (E := "java/lang/IndexOutOfBoundsException") (name := "java/lang/IndexOutOfBoundsException") S.2.2.2.1 [] ⟨0, 14, 17, 21⟩ [⟨0, 14, 21, 13⟩, ⟨0, 14, 25, 15⟩] htab (fun _ h => absurd h List.not_mem_nil) (by decide) (by decide) (S.2.2.2.2 _ g_702) (tw_bef hZ hW.2.2.2.2.2 S.2.2.2.2 (Or.inr n_560)) h7 h8 h9 ?_
      refine lv_astore (lv' := [(6, .ref q9), (0, .ref (A (0, 14))), (1, .int x), (2, .int y), (3, .int am), (4, .int le), (5, .ref ao)]) hxe hcd dL_addNote_17 hl (by decide) rfl (fun ls hl => ?_)
      refine lv_iconst (v := (nI 1)) hxe hcd dL_addNote_19 (by decide) ?_
      exact u_ret S hr hlk (F := fun (u : GM × (Nat → Int64)) => uW Z ao (oJ Z u.2) u.1) (u, f) hW (Nat.le_of_ble_eq_true rfl) (Nat.le_of_ble_eq_true rfl) (Or.inr ⟨1, hpx, Or.inl ⟨rfl, rfl⟩⟩) dL_addNote_20
    · refine vx_catch (E := "java/lang/IllegalArgumentException") (name := "java/lang/IllegalArgumentException") S.2.2.2.1 [⟨0, 14, 17, 21⟩] ⟨0, 14, 21, 13⟩ [⟨0, 14, 25, 15⟩] htab (List.forall_mem_cons.mpr ⟨Or.inr ⟨by decide, "java/lang/IndexOutOfBoundsException", S.2.2.2.2 _ g_702, hNC _ _ _ hW.2.2.2.2.2 ("java/lang/IllegalArgumentException", "java/lang/IndexOutOfBoundsException") (List.mem_of_getElem? (i := 1) rfl)⟩, (fun _ h => absurd h List.not_mem_nil)⟩) (by decide) (by decide) (S.2.2.2.2 _ g_539) (tw_bef hZ hW.2.2.2.2.2 S.2.2.2.2 (Or.inr n_631)) h7 h8 h9 ?_
      refine lv_astore (lv' := [(6, .ref q9), (0, .ref (A (0, 14))), (1, .int x), (2, .int y), (3, .int am), (4, .int le), (5, .ref ao)]) hxe hcd dL_addNote_21 hl (by decide) rfl (fun ls hl => ?_)
      refine lv_iconst (v := (nI 2)) hxe hcd dL_addNote_23 (by decide) ?_
      exact u_ret S hr hlk (F := fun (u : GM × (Nat → Int64)) => uW Z ao (oJ Z u.2) u.1) (u, f) hW (Nat.le_of_ble_eq_true rfl) (Nat.le_of_ble_eq_true rfl) (Or.inr ⟨2, hpx, Or.inr (Or.inl ⟨rfl, rfl⟩)⟩) dL_addNote_24
    · refine vx_catch (E := "java/lang/IllegalStateException") (name := "java/lang/IllegalStateException") S.2.2.2.1 [⟨0, 14, 17, 21⟩, ⟨0, 14, 21, 13⟩] ⟨0, 14, 25, 15⟩ [] htab (List.forall_mem_cons.mpr ⟨Or.inr ⟨by decide, "java/lang/IndexOutOfBoundsException", S.2.2.2.2 _ g_702, hNC _ _ _ hW.2.2.2.2.2 ("java/lang/IllegalStateException", "java/lang/IndexOutOfBoundsException") (List.mem_of_getElem? (i := 2) rfl)⟩, (List.forall_mem_cons.mpr ⟨Or.inr ⟨by decide, "java/lang/IllegalArgumentException", S.2.2.2.2 _ g_539, hNC _ _ _ hW.2.2.2.2.2 ("java/lang/IllegalStateException", "java/lang/IllegalArgumentException") (List.mem_of_getElem? (i := 0) rfl)⟩, (fun _ h => absurd h List.not_mem_nil)⟩)⟩) (by decide) (by decide) (S.2.2.2.2 _ g_540) (tw_bef hZ hW.2.2.2.2.2 S.2.2.2.2 (Or.inr n_647)) h7 h8 h9 ?_
      refine lv_astore (lv' := [(6, .ref q9), (0, .ref (A (0, 14))), (1, .int x), (2, .int y), (3, .int am), (4, .int le), (5, .ref ao)]) hxe hcd dL_addNote_25 hl (by decide) rfl (fun ls hl => ?_)
      refine lv_iconst (v := (nI 3)) hxe hcd dL_addNote_27 (by decide) ?_
      exact u_ret S hr hlk (F := fun (u : GM × (Nat → Int64)) => uW Z ao (oJ Z u.2) u.1) (u, f) hW (Nat.le_of_ble_eq_true rfl) (Nat.le_of_ble_eq_true rfl) (Or.inr ⟨3, hpx, Or.inr (Or.inr ⟨rfl, rfl⟩)⟩) dL_addNote_28
  · refine lv_i2l (v := r.toInt64) hxe hcd dL_addNote_12 rfl ?_
    refine u_lst S hW dL_addNote_13 (fun H locs f2 hf2 hW => ?_)
    refine lv_goto (tgt := 29) hxe hcd dL_addNote_14 (by decide) ?_
    refine lv_iconst (v := (nI 0)) hxe hcd dL_addNote_29 (by decide) ?_
    exact u_ret S hr hlk (F := fun (u : GM × (Nat → Int64)) => uW Z ao (oJ Z u.2) u.1) (u, f2) hW (Nat.le_of_ble_eq_true rfl) (Nat.le_of_ble_eq_true rfl) (Or.inl ⟨rfl, r, hp, hf2⟩) dL_addNote_30
set_option maxHeartbeats 4000000 in
set_option maxRecDepth 100000 in
theorem t_L_removeNote (l : Launch) (hl0 : l.stackTraces = false) {Z : ZT} (hZ : zOK Z) (hZX : ZX Z) (hNC : XNC Z) (ao : Nat) (f : Nat → Int64) (A : Nat × Nat → Nat) (g : Nat → Bool) (μ : CM) (sz : Nat) {v : Nat → Int32} (hVG : VG v) (hR : RP (μ 0) v) {kr cn : Nat} (hkr : kr < 8) (hk15 : μ 0 15 1 = nI kr) (hcn : μ 0 15 2 = nI cn) (hc8 : cn ≤ 8) (x : Int32) : XW l yL_removeNote cL_removeNote 4 [(0, 9, 12, 21), (0, 9, 15, 45)] [.ref (A (0, 14)), .int x, .ref ao] Z ao (oJ Z) f (g, A, μ) sz (fun r u => (r = nI 0 ∧ ∃ x9 : Int32, (fun r u => ∃ q, q < 4 ∧ x = nI q ∧ 0 < nnV v q ∧ r = nI (lnV v q - nlV v q (nnV v q - 1)) ∧ CHG g A μ kr cn v (untV v q (nnV v q) (lnV v q) (nlV v q (nnV v q - 1))) u) x9 u.1 ∧ u.2 0 = x9.toInt64) ∨ ∃ n9 : Nat, (fun n u => SM g A μ u ∧ ((n = 1 ∧ ¬ IX x 4) ∨ (n = 4 ∧ ∃ q, q < 4 ∧ x = nI q ∧ nnV v q = 0))) n9 u.1 ∧ ((n9 = 1 ∧ r = nI 1) ∨ (n9 = 4 ∧ r = nI 2))) := by
  refine u_met (ws := uW Z ao (oJ Z f) (g, A, μ)) (by decide +kernel) (Nat.le_of_ble_eq_true rfl) ?_
  intro p e s m below meth c ls S hr hlk htab hsz hW hl
  have hxe := S.1
  have hcd := S.2.1
  subst hsz
  have hl : lv_has ls 4 [(0, .ref (A (0, 14))), (1, .int x), (2, .ref ao)] := hl
  refine lv_aload_n hxe hcd dL_removeNote_0 rfl (lv_at hl 2 rfl) ?_
  refine lv_iconst (v := (nI 0)) hxe hcd dL_removeNote_1 (by decide) ?_
  refine lv_aload_n hxe hcd dL_removeNote_2 rfl (lv_at hl 0 rfl) ?_
  refine lv_iload_n hxe hcd dL_removeNote_3 rfl (lv_at hl 1 rfl) ?_
  refine u_calli hZ S (wr := [(ao, oJ Z f)]) (v := (g, A, μ)) hW (As := [.int x]) (rest := [.int (nI 0), .ref ao]) (t_X9_removeNote l hl0 hZ hZX A g μ s.heap.size hVG hR hkr hk15 hcn hc8 x) k_L_42 (r_recv (u_X (wr := [(ao, oJ Z f)]) (v := (g, A, μ)) hW) (x := (0, 14)) (in_r (by decide) (by decide)) rfl rfl) hl.1 rfl rfl (Nat.le_of_ble_eq_true rfl) ⟨(Nat.le_of_ble_eq_true rfl), (Nat.le_of_ble_eq_true rfl)⟩ ⟨(Nat.le_of_ble_eq_true rfl), (Nat.le_of_ble_eq_true rfl)⟩ dL_removeNote_4 (fun n u H locs q9 ce hpx hW h7 h8 h9 => ?_) (fun r u H locs hp hW => ?_)
  · have hpx2 := hpx
    rcases hpx2.2 with ⟨rfl, hc⟩ | ⟨rfl, hc⟩
    · refine vx_catch (E := "java/lang/IndexOutOfBoundsException") (name := "java/lang/IndexOutOfBoundsException") S.2.2.2.1 [] ⟨0, 9, 12, 21⟩ [⟨0, 9, 15, 45⟩] htab (fun _ h => absurd h List.not_mem_nil) (by decide) (by decide) (S.2.2.2.2 _ g_702) (tw_bef hZ hW.2.2.2.2.2 S.2.2.2.2 (Or.inr n_560)) h7 h8 h9 ?_
      refine lv_astore_n (lv' := [(3, .ref q9), (0, .ref (A (0, 14))), (1, .int x), (2, .ref ao)]) hxe hcd dL_removeNote_12 rfl hl (by decide) rfl (fun ls hl => ?_)
      refine lv_iconst (v := (nI 1)) hxe hcd dL_removeNote_13 (by decide) ?_
      exact u_ret S hr hlk (F := fun (u : GM × (Nat → Int64)) => uW Z ao (oJ Z u.2) u.1) (u, f) hW (Nat.le_of_ble_eq_true rfl) (Nat.le_of_ble_eq_true rfl) (Or.inr ⟨1, hpx, Or.inl ⟨rfl, rfl⟩⟩) dL_removeNote_14
    · refine vx_catch (E := "java/util/NoSuchElementException") (name := "java/util/NoSuchElementException") S.2.2.2.1 [⟨0, 9, 12, 21⟩] ⟨0, 9, 15, 45⟩ [] htab (List.forall_mem_cons.mpr ⟨Or.inr ⟨by decide, "java/lang/IndexOutOfBoundsException", S.2.2.2.2 _ g_702, hNC _ _ _ hW.2.2.2.2.2 ("java/util/NoSuchElementException", "java/lang/IndexOutOfBoundsException") (List.mem_of_getElem? (i := 3) rfl)⟩, (fun _ h => absurd h List.not_mem_nil)⟩) (by decide) (by decide) (S.2.2.2.2 _ g_799) (tw_bef hZ hW.2.2.2.2.2 S.2.2.2.2 (Or.inr n_663)) h7 h8 h9 ?_
      refine lv_astore_n (lv' := [(3, .ref q9), (0, .ref (A (0, 14))), (1, .int x), (2, .ref ao)]) hxe hcd dL_removeNote_15 rfl hl (by decide) rfl (fun ls hl => ?_)
      refine lv_iconst (v := (nI 2)) hxe hcd dL_removeNote_16 (by decide) ?_
      exact u_ret S hr hlk (F := fun (u : GM × (Nat → Int64)) => uW Z ao (oJ Z u.2) u.1) (u, f) hW (Nat.le_of_ble_eq_true rfl) (Nat.le_of_ble_eq_true rfl) (Or.inr ⟨4, hpx, Or.inr ⟨rfl, rfl⟩⟩) dL_removeNote_17
  · refine lv_i2l (v := r.toInt64) hxe hcd dL_removeNote_7 rfl ?_
    refine u_lst S hW dL_removeNote_8 (fun H locs f2 hf2 hW => ?_)
    refine lv_goto (tgt := 18) hxe hcd dL_removeNote_9 (by decide) ?_
    refine lv_iconst (v := (nI 0)) hxe hcd dL_removeNote_18 (by decide) ?_
    exact u_ret S hr hlk (F := fun (u : GM × (Nat → Int64)) => uW Z ao (oJ Z u.2) u.1) (u, f2) hW (Nat.le_of_ble_eq_true rfl) (Nat.le_of_ble_eq_true rfl) (Or.inl ⟨rfl, r, hp, hf2⟩) dL_removeNote_19
set_option maxHeartbeats 4000000 in
set_option maxRecDepth 100000 in
theorem t_L_noteCount (l : Launch) (hl0 : l.stackTraces = false) {Z : ZT} (hZ : zOK Z) (hZX : ZX Z) (hNC : XNC Z) (ao : Nat) (f : Nat → Int64) (A : Nat × Nat → Nat) (g : Nat → Bool) (μ : CM) (sz : Nat) {v : Nat → Int32} (hVG : VG v) (hR : RP (μ 0) v) (x : Int32) : XW l yL_noteCount cL_noteCount 4 [(0, 9, 12, 21)] [.ref (A (0, 14)), .int x, .ref ao] Z ao (oJ Z) f (g, A, μ) sz (fun r u => (r = nI 0 ∧ ∃ x9 : Int32, (fun r u => ∃ q, q < 4 ∧ x = nI q ∧ r = v (21 + q) ∧ SM g A μ u) x9 u.1 ∧ u.2 0 = x9.toInt64) ∨ ∃ n9 : Nat, (fun n u => SM g A μ u ∧ ((n = 1 ∧ ¬ IX x 4))) n9 u.1 ∧ ((n9 = 1 ∧ r = nI 1))) := by
  refine u_met (ws := uW Z ao (oJ Z f) (g, A, μ)) (by decide +kernel) (Nat.le_of_ble_eq_true rfl) ?_
  intro p e s m below meth c ls S hr hlk htab hsz hW hl
  have hxe := S.1
  have hcd := S.2.1
  subst hsz
  have hl : lv_has ls 4 [(0, .ref (A (0, 14))), (1, .int x), (2, .ref ao)] := hl
  refine lv_aload_n hxe hcd dL_noteCount_0 rfl (lv_at hl 2 rfl) ?_
  refine lv_iconst (v := (nI 0)) hxe hcd dL_noteCount_1 (by decide) ?_
  refine lv_aload_n hxe hcd dL_noteCount_2 rfl (lv_at hl 0 rfl) ?_
  refine lv_iload_n hxe hcd dL_noteCount_3 rfl (lv_at hl 1 rfl) ?_
  refine u_calli hZ S (wr := [(ao, oJ Z f)]) (v := (g, A, μ)) hW (As := [.int x]) (rest := [.int (nI 0), .ref ao]) (t_X9_noteCount l hl0 hZ hZX A g μ s.heap.size hVG hR x) k_L_47 (r_recv (u_X (wr := [(ao, oJ Z f)]) (v := (g, A, μ)) hW) (x := (0, 14)) (in_r (by decide) (by decide)) rfl rfl) hl.1 rfl rfl (Nat.le_of_ble_eq_true rfl) ⟨(Nat.le_of_ble_eq_true rfl), (Nat.le_of_ble_eq_true rfl)⟩ ⟨(Nat.le_of_ble_eq_true rfl), (Nat.le_of_ble_eq_true rfl)⟩ dL_noteCount_4 (fun n u H locs q9 ce hpx hW h7 h8 h9 => ?_) (fun r u H locs hp hW => ?_)
  · have hpx2 := hpx
    obtain ⟨rfl, hc⟩ := hpx2.2
    refine vx_catch (E := "java/lang/IndexOutOfBoundsException") (name := "java/lang/IndexOutOfBoundsException") S.2.2.2.1 [] ⟨0, 9, 12, 21⟩ [] htab (fun _ h => absurd h List.not_mem_nil) (by decide) (by decide) (S.2.2.2.2 _ g_702) (tw_bef hZ hW.2.2.2.2.2 S.2.2.2.2 (Or.inr n_560)) h7 h8 h9 ?_
    refine lv_astore_n (lv' := [(3, .ref q9), (0, .ref (A (0, 14))), (1, .int x), (2, .ref ao)]) hxe hcd dL_noteCount_12 rfl hl (by decide) rfl (fun ls hl => ?_)
    refine lv_iconst (v := (nI 1)) hxe hcd dL_noteCount_13 (by decide) ?_
    exact u_ret S hr hlk (F := fun (u : GM × (Nat → Int64)) => uW Z ao (oJ Z u.2) u.1) (u, f) hW (Nat.le_of_ble_eq_true rfl) (Nat.le_of_ble_eq_true rfl) (Or.inr ⟨1, hpx, ⟨rfl, rfl⟩⟩) dL_noteCount_14
  · refine lv_i2l (v := r.toInt64) hxe hcd dL_noteCount_7 rfl ?_
    refine u_lst S hW dL_noteCount_8 (fun H locs f2 hf2 hW => ?_)
    refine lv_goto (tgt := 15) hxe hcd dL_noteCount_9 (by decide) ?_
    refine lv_iconst (v := (nI 0)) hxe hcd dL_noteCount_15 (by decide) ?_
    exact u_ret S hr hlk (F := fun (u : GM × (Nat → Int64)) => uW Z ao (oJ Z u.2) u.1) (u, f2) hW (Nat.le_of_ble_eq_true rfl) (Nat.le_of_ble_eq_true rfl) (Or.inl ⟨rfl, r, hp, hf2⟩) dL_noteCount_16
set_option maxHeartbeats 4000000 in
set_option maxRecDepth 100000 in
theorem t_L_songLength (l : Launch) (hl0 : l.stackTraces = false) {Z : ZT} (hZ : zOK Z) (hZX : ZX Z) (hNC : XNC Z) (ao : Nat) (f : Nat → Int64) (A : Nat × Nat → Nat) (g : Nat → Bool) (μ : CM) (sz : Nat) {v : Nat → Int32} (hVG : VG v) (hR : RP (μ 0) v) (x : Int32) : XW l yL_songLength cL_songLength 4 [(0, 9, 12, 21)] [.ref (A (0, 14)), .int x, .ref ao] Z ao (oJ Z) f (g, A, μ) sz (fun r u => (r = nI 0 ∧ ∃ x9 : Int32, (fun r u => ∃ q, q < 4 ∧ x = nI q ∧ r = v (25 + q) ∧ SM g A μ u) x9 u.1 ∧ u.2 0 = x9.toInt64) ∨ ∃ n9 : Nat, (fun n u => SM g A μ u ∧ ((n = 1 ∧ ¬ IX x 4))) n9 u.1 ∧ ((n9 = 1 ∧ r = nI 1))) := by
  refine u_met (ws := uW Z ao (oJ Z f) (g, A, μ)) (by decide +kernel) (Nat.le_of_ble_eq_true rfl) ?_
  intro p e s m below meth c ls S hr hlk htab hsz hW hl
  have hxe := S.1
  have hcd := S.2.1
  subst hsz
  have hl : lv_has ls 4 [(0, .ref (A (0, 14))), (1, .int x), (2, .ref ao)] := hl
  refine lv_aload_n hxe hcd dL_songLength_0 rfl (lv_at hl 2 rfl) ?_
  refine lv_iconst (v := (nI 0)) hxe hcd dL_songLength_1 (by decide) ?_
  refine lv_aload_n hxe hcd dL_songLength_2 rfl (lv_at hl 0 rfl) ?_
  refine lv_iload_n hxe hcd dL_songLength_3 rfl (lv_at hl 1 rfl) ?_
  refine u_calli hZ S (wr := [(ao, oJ Z f)]) (v := (g, A, μ)) hW (As := [.int x]) (rest := [.int (nI 0), .ref ao]) (t_X9_songLength l hl0 hZ hZX A g μ s.heap.size hVG hR x) k_L_50 (r_recv (u_X (wr := [(ao, oJ Z f)]) (v := (g, A, μ)) hW) (x := (0, 14)) (in_r (by decide) (by decide)) rfl rfl) hl.1 rfl rfl (Nat.le_of_ble_eq_true rfl) ⟨(Nat.le_of_ble_eq_true rfl), (Nat.le_of_ble_eq_true rfl)⟩ ⟨(Nat.le_of_ble_eq_true rfl), (Nat.le_of_ble_eq_true rfl)⟩ dL_songLength_4 (fun n u H locs q9 ce hpx hW h7 h8 h9 => ?_) (fun r u H locs hp hW => ?_)
  · have hpx2 := hpx
    obtain ⟨rfl, hc⟩ := hpx2.2
    refine vx_catch (E := "java/lang/IndexOutOfBoundsException") (name := "java/lang/IndexOutOfBoundsException") S.2.2.2.1 [] ⟨0, 9, 12, 21⟩ [] htab (fun _ h => absurd h List.not_mem_nil) (by decide) (by decide) (S.2.2.2.2 _ g_702) (tw_bef hZ hW.2.2.2.2.2 S.2.2.2.2 (Or.inr n_560)) h7 h8 h9 ?_
    refine lv_astore_n (lv' := [(3, .ref q9), (0, .ref (A (0, 14))), (1, .int x), (2, .ref ao)]) hxe hcd dL_songLength_12 rfl hl (by decide) rfl (fun ls hl => ?_)
    refine lv_iconst (v := (nI 1)) hxe hcd dL_songLength_13 (by decide) ?_
    exact u_ret S hr hlk (F := fun (u : GM × (Nat → Int64)) => uW Z ao (oJ Z u.2) u.1) (u, f) hW (Nat.le_of_ble_eq_true rfl) (Nat.le_of_ble_eq_true rfl) (Or.inr ⟨1, hpx, ⟨rfl, rfl⟩⟩) dL_songLength_14
  · refine lv_i2l (v := r.toInt64) hxe hcd dL_songLength_7 rfl ?_
    refine u_lst S hW dL_songLength_8 (fun H locs f2 hf2 hW => ?_)
    refine lv_goto (tgt := 15) hxe hcd dL_songLength_9 (by decide) ?_
    refine lv_iconst (v := (nI 0)) hxe hcd dL_songLength_15 (by decide) ?_
    exact u_ret S hr hlk (F := fun (u : GM × (Nat → Int64)) => uW Z ao (oJ Z u.2) u.1) (u, f2) hW (Nat.le_of_ble_eq_true rfl) (Nat.le_of_ble_eq_true rfl) (Or.inl ⟨rfl, r, hp, hf2⟩) dL_songLength_16
set_option maxHeartbeats 4000000 in
set_option maxRecDepth 100000 in
theorem t_L_rawSample (l : Launch) (hl0 : l.stackTraces = false) {Z : ZT} (hZ : zOK Z) (hZX : ZX Z) (hNC : XNC Z) (ao : Nat) (f : Nat → Int64) (A : Nat × Nat → Nat) (g : Nat → Bool) (μ : CM) (sz : Nat) {v : Nat → Int32} (hVG : VG v) (hR : RP (μ 0) v) (x y : Int32) : XW l yL_rawSample cL_rawSample 5 [(0, 10, 13, 21), (0, 10, 17, 45)] [.ref (A (0, 14)), .int x, .int y, .ref ao] Z ao (oJ Z) f (g, A, μ) sz (fun r u => (r = nI 0 ∧ ∃ x9 : Int32, (fun r u => ∃ q i, q < 4 ∧ x = nI q ∧ i < lnV v q ∧ y = nI i ∧ r = v (77 + 160 * q + i) ∧ SM g A μ u) x9 u.1 ∧ u.2 0 = x9.toInt64) ∨ ∃ n9 : Nat, (fun n u => SM g A μ u ∧ ((n = 1 ∧ ¬ IX x 4) ∨ (n = 4 ∧ ∃ q, q < 4 ∧ x = nI q ∧ ¬ IX y (lnV v q)))) n9 u.1 ∧ ((n9 = 1 ∧ r = nI 1) ∨ (n9 = 4 ∧ r = nI 2))) := by
  refine u_met (ws := uW Z ao (oJ Z f) (g, A, μ)) (by decide +kernel) (Nat.le_of_ble_eq_true rfl) ?_
  intro p e s m below meth c ls S hr hlk htab hsz hW hl
  have hxe := S.1
  have hcd := S.2.1
  subst hsz
  have hl : lv_has ls 5 [(0, .ref (A (0, 14))), (1, .int x), (2, .int y), (3, .ref ao)] := hl
  refine lv_aload_n hxe hcd dL_rawSample_0 rfl (lv_at hl 3 rfl) ?_
  refine lv_iconst (v := (nI 0)) hxe hcd dL_rawSample_1 (by decide) ?_
  refine lv_aload_n hxe hcd dL_rawSample_2 rfl (lv_at hl 0 rfl) ?_
  refine lv_iload_n hxe hcd dL_rawSample_3 rfl (lv_at hl 1 rfl) ?_
  refine lv_iload_n hxe hcd dL_rawSample_4 rfl (lv_at hl 2 rfl) ?_
  refine u_calli hZ S (wr := [(ao, oJ Z f)]) (v := (g, A, μ)) hW (As := [.int x, .int y]) (rest := [.int (nI 0), .ref ao]) (t_X9_rawSample l hl0 hZ hZX A g μ s.heap.size hVG hR x y) k_L_53 (r_recv (u_X (wr := [(ao, oJ Z f)]) (v := (g, A, μ)) hW) (x := (0, 14)) (in_r (by decide) (by decide)) rfl rfl) hl.1 rfl rfl (Nat.le_of_ble_eq_true rfl) ⟨(Nat.le_of_ble_eq_true rfl), (Nat.le_of_ble_eq_true rfl)⟩ ⟨(Nat.le_of_ble_eq_true rfl), (Nat.le_of_ble_eq_true rfl)⟩ dL_rawSample_5 (fun n u H locs q9 ce hpx hW h7 h8 h9 => ?_) (fun r u H locs hp hW => ?_)
  · have hpx2 := hpx
    rcases hpx2.2 with ⟨rfl, hc⟩ | ⟨rfl, hc⟩
    · refine vx_catch (E := "java/lang/IndexOutOfBoundsException") (name := "java/lang/IndexOutOfBoundsException") S.2.2.2.1 [] ⟨0, 10, 13, 21⟩ [⟨0, 10, 17, 45⟩] htab (fun _ h => absurd h List.not_mem_nil) (by decide) (by decide) (S.2.2.2.2 _ g_702) (tw_bef hZ hW.2.2.2.2.2 S.2.2.2.2 (Or.inr n_560)) h7 h8 h9 ?_
      refine lv_astore (lv' := [(4, .ref q9), (0, .ref (A (0, 14))), (1, .int x), (2, .int y), (3, .ref ao)]) hxe hcd dL_rawSample_13 hl (by decide) rfl (fun ls hl => ?_)
      refine lv_iconst (v := (nI 1)) hxe hcd dL_rawSample_15 (by decide) ?_
      exact u_ret S hr hlk (F := fun (u : GM × (Nat → Int64)) => uW Z ao (oJ Z u.2) u.1) (u, f) hW (Nat.le_of_ble_eq_true rfl) (Nat.le_of_ble_eq_true rfl) (Or.inr ⟨1, hpx, Or.inl ⟨rfl, rfl⟩⟩) dL_rawSample_16
    · refine vx_catch (E := "java/util/NoSuchElementException") (name := "java/util/NoSuchElementException") S.2.2.2.1 [⟨0, 10, 13, 21⟩] ⟨0, 10, 17, 45⟩ [] htab (List.forall_mem_cons.mpr ⟨Or.inr ⟨by decide, "java/lang/IndexOutOfBoundsException", S.2.2.2.2 _ g_702, hNC _ _ _ hW.2.2.2.2.2 ("java/util/NoSuchElementException", "java/lang/IndexOutOfBoundsException") (List.mem_of_getElem? (i := 3) rfl)⟩, (fun _ h => absurd h List.not_mem_nil)⟩) (by decide) (by decide) (S.2.2.2.2 _ g_799) (tw_bef hZ hW.2.2.2.2.2 S.2.2.2.2 (Or.inr n_663)) h7 h8 h9 ?_
      refine lv_astore (lv' := [(4, .ref q9), (0, .ref (A (0, 14))), (1, .int x), (2, .int y), (3, .ref ao)]) hxe hcd dL_rawSample_17 hl (by decide) rfl (fun ls hl => ?_)
      refine lv_iconst (v := (nI 2)) hxe hcd dL_rawSample_19 (by decide) ?_
      exact u_ret S hr hlk (F := fun (u : GM × (Nat → Int64)) => uW Z ao (oJ Z u.2) u.1) (u, f) hW (Nat.le_of_ble_eq_true rfl) (Nat.le_of_ble_eq_true rfl) (Or.inr ⟨4, hpx, Or.inr ⟨rfl, rfl⟩⟩) dL_rawSample_20
  · refine lv_i2l (v := r.toInt64) hxe hcd dL_rawSample_8 rfl ?_
    refine u_lst S hW dL_rawSample_9 (fun H locs f2 hf2 hW => ?_)
    refine lv_goto (tgt := 21) hxe hcd dL_rawSample_10 (by decide) ?_
    refine lv_iconst (v := (nI 0)) hxe hcd dL_rawSample_21 (by decide) ?_
    exact u_ret S hr hlk (F := fun (u : GM × (Nat → Int64)) => uW Z ao (oJ Z u.2) u.1) (u, f2) hW (Nat.le_of_ble_eq_true rfl) (Nat.le_of_ble_eq_true rfl) (Or.inl ⟨rfl, r, hp, hf2⟩) dL_rawSample_22
set_option maxHeartbeats 4000000 in
set_option maxRecDepth 100000 in
theorem t_L_sample (l : Launch) (hl0 : l.stackTraces = false) {Z : ZT} (hZ : zOK Z) (hZX : ZX Z) (hNC : XNC Z) (ao : Nat) (f : Nat → Int64) (A : Nat × Nat → Nat) (g : Nat → Bool) (μ : CM) (sz : Nat) {v : Nat → Int32} (hVG : VG v) (hR : RP (μ 0) v) (x y : Int32) : XW l yL_sample cL_sample 5 [(0, 10, 13, 21), (0, 10, 17, 45)] [.ref (A (0, 14)), .int x, .int y, .ref ao] Z ao (oJ Z) f (g, A, μ) sz (fun r u => (r = nI 0 ∧ ∃ x9 : Int32, (fun r u => ∃ q i, q < 4 ∧ x = nI q ∧ i < lnV v q ∧ y = nI i ∧ r = flV v q (nfV v) i ∧ SM g A μ u) x9 u.1 ∧ u.2 0 = x9.toInt64) ∨ ∃ n9 : Nat, (fun n u => SM g A μ u ∧ ((n = 1 ∧ ¬ IX x 4) ∨ (n = 4 ∧ ∃ q, q < 4 ∧ x = nI q ∧ ¬ IX y (lnV v q)))) n9 u.1 ∧ ((n9 = 1 ∧ r = nI 1) ∨ (n9 = 4 ∧ r = nI 2))) := by
  refine u_met (ws := uW Z ao (oJ Z f) (g, A, μ)) (by decide +kernel) (Nat.le_of_ble_eq_true rfl) ?_
  intro p e s m below meth c ls S hr hlk htab hsz hW hl
  have hxe := S.1
  have hcd := S.2.1
  subst hsz
  have hl : lv_has ls 5 [(0, .ref (A (0, 14))), (1, .int x), (2, .int y), (3, .ref ao)] := hl
  refine lv_aload_n hxe hcd dL_sample_0 rfl (lv_at hl 3 rfl) ?_
  refine lv_iconst (v := (nI 0)) hxe hcd dL_sample_1 (by decide) ?_
  refine lv_aload_n hxe hcd dL_sample_2 rfl (lv_at hl 0 rfl) ?_
  refine lv_iload_n hxe hcd dL_sample_3 rfl (lv_at hl 1 rfl) ?_
  refine lv_iload_n hxe hcd dL_sample_4 rfl (lv_at hl 2 rfl) ?_
  refine u_calli hZ S (wr := [(ao, oJ Z f)]) (v := (g, A, μ)) hW (As := [.int x, .int y]) (rest := [.int (nI 0), .ref ao]) (t_X9_sample l hl0 hZ hZX A g μ s.heap.size hVG hR x y) k_L_56 (r_recv (u_X (wr := [(ao, oJ Z f)]) (v := (g, A, μ)) hW) (x := (0, 14)) (in_r (by decide) (by decide)) rfl rfl) hl.1 rfl rfl (Nat.le_of_ble_eq_true rfl) ⟨(Nat.le_of_ble_eq_true rfl), (Nat.le_of_ble_eq_true rfl)⟩ ⟨(Nat.le_of_ble_eq_true rfl), (Nat.le_of_ble_eq_true rfl)⟩ dL_sample_5 (fun n u H locs q9 ce hpx hW h7 h8 h9 => ?_) (fun r u H locs hp hW => ?_)
  · have hpx2 := hpx
    rcases hpx2.2 with ⟨rfl, hc⟩ | ⟨rfl, hc⟩
    · refine vx_catch (E := "java/lang/IndexOutOfBoundsException") (name := "java/lang/IndexOutOfBoundsException") S.2.2.2.1 [] ⟨0, 10, 13, 21⟩ [⟨0, 10, 17, 45⟩] htab (fun _ h => absurd h List.not_mem_nil) (by decide) (by decide) (S.2.2.2.2 _ g_702) (tw_bef hZ hW.2.2.2.2.2 S.2.2.2.2 (Or.inr n_560)) h7 h8 h9 ?_
      refine lv_astore (lv' := [(4, .ref q9), (0, .ref (A (0, 14))), (1, .int x), (2, .int y), (3, .ref ao)]) hxe hcd dL_sample_13 hl (by decide) rfl (fun ls hl => ?_)
      refine lv_iconst (v := (nI 1)) hxe hcd dL_sample_15 (by decide) ?_
      exact u_ret S hr hlk (F := fun (u : GM × (Nat → Int64)) => uW Z ao (oJ Z u.2) u.1) (u, f) hW (Nat.le_of_ble_eq_true rfl) (Nat.le_of_ble_eq_true rfl) (Or.inr ⟨1, hpx, Or.inl ⟨rfl, rfl⟩⟩) dL_sample_16
    · refine vx_catch (E := "java/util/NoSuchElementException") (name := "java/util/NoSuchElementException") S.2.2.2.1 [⟨0, 10, 13, 21⟩] ⟨0, 10, 17, 45⟩ [] htab (List.forall_mem_cons.mpr ⟨Or.inr ⟨by decide, "java/lang/IndexOutOfBoundsException", S.2.2.2.2 _ g_702, hNC _ _ _ hW.2.2.2.2.2 ("java/util/NoSuchElementException", "java/lang/IndexOutOfBoundsException") (List.mem_of_getElem? (i := 3) rfl)⟩, (fun _ h => absurd h List.not_mem_nil)⟩) (by decide) (by decide) (S.2.2.2.2 _ g_799) (tw_bef hZ hW.2.2.2.2.2 S.2.2.2.2 (Or.inr n_663)) h7 h8 h9 ?_
      refine lv_astore (lv' := [(4, .ref q9), (0, .ref (A (0, 14))), (1, .int x), (2, .int y), (3, .ref ao)]) hxe hcd dL_sample_17 hl (by decide) rfl (fun ls hl => ?_)
      refine lv_iconst (v := (nI 2)) hxe hcd dL_sample_19 (by decide) ?_
      exact u_ret S hr hlk (F := fun (u : GM × (Nat → Int64)) => uW Z ao (oJ Z u.2) u.1) (u, f) hW (Nat.le_of_ble_eq_true rfl) (Nat.le_of_ble_eq_true rfl) (Or.inr ⟨4, hpx, Or.inr ⟨rfl, rfl⟩⟩) dL_sample_20
  · refine lv_i2l (v := r.toInt64) hxe hcd dL_sample_8 rfl ?_
    refine u_lst S hW dL_sample_9 (fun H locs f2 hf2 hW => ?_)
    refine lv_goto (tgt := 21) hxe hcd dL_sample_10 (by decide) ?_
    refine lv_iconst (v := (nI 0)) hxe hcd dL_sample_21 (by decide) ?_
    exact u_ret S hr hlk (F := fun (u : GM × (Nat → Int64)) => uW Z ao (oJ Z u.2) u.1) (u, f2) hW (Nat.le_of_ble_eq_true rfl) (Nat.le_of_ble_eq_true rfl) (Or.inl ⟨rfl, r, hp, hf2⟩) dL_sample_22
set_option maxHeartbeats 4000000 in
set_option maxRecDepth 100000 in
theorem t_L_sampleByFilter (l : Launch) (hl0 : l.stackTraces = false) {Z : ZT} (hZ : zOK Z) (hZX : ZX Z) (hNC : XNC Z) (ao : Nat) (f : Nat → Int64) (A : Nat × Nat → Nat) (g : Nat → Bool) (μ : CM) (sz : Nat) {v : Nat → Int32} (hVG : VG v) (hR : RP (μ 0) v) (x y : Int32) : XW l yL_sampleByFilter cL_sampleByFilter 5 [(0, 10, 13, 21), (0, 10, 17, 45)] [.ref (A (0, 14)), .int x, .int y, .ref ao] Z ao (oJ Z) f (g, A, μ) sz (fun r u => (r = nI 0 ∧ ∃ x9 : Int32, (fun r u => ∃ q i, q < 4 ∧ x = nI q ∧ i < lnV v q ∧ y = nI i ∧ r = flV v q (nfV v) i ∧ SM g A μ u) x9 u.1 ∧ u.2 0 = x9.toInt64) ∨ ∃ n9 : Nat, (fun n u => SM g A μ u ∧ ((n = 1 ∧ ¬ IX x 4) ∨ (n = 4 ∧ ∃ q, q < 4 ∧ x = nI q ∧ ¬ IX y (lnV v q)))) n9 u.1 ∧ ((n9 = 1 ∧ r = nI 1) ∨ (n9 = 4 ∧ r = nI 2))) := by
  refine u_met (ws := uW Z ao (oJ Z f) (g, A, μ)) (by decide +kernel) (Nat.le_of_ble_eq_true rfl) ?_
  intro p e s m below meth c ls S hr hlk htab hsz hW hl
  have hxe := S.1
  have hcd := S.2.1
  subst hsz
  have hl : lv_has ls 5 [(0, .ref (A (0, 14))), (1, .int x), (2, .int y), (3, .ref ao)] := hl
  refine lv_aload_n hxe hcd dL_sampleByFilter_0 rfl (lv_at hl 3 rfl) ?_
  refine lv_iconst (v := (nI 0)) hxe hcd dL_sampleByFilter_1 (by decide) ?_
  refine lv_aload_n hxe hcd dL_sampleByFilter_2 rfl (lv_at hl 0 rfl) ?_
  refine lv_iload_n hxe hcd dL_sampleByFilter_3 rfl (lv_at hl 1 rfl) ?_
  refine lv_iload_n hxe hcd dL_sampleByFilter_4 rfl (lv_at hl 2 rfl) ?_
  refine u_calli hZ S (wr := [(ao, oJ Z f)]) (v := (g, A, μ)) hW (As := [.int x, .int y]) (rest := [.int (nI 0), .ref ao]) (t_X9_sampleByFilter l hl0 hZ hZX A g μ s.heap.size hVG hR x y) k_L_59 (r_recv (u_X (wr := [(ao, oJ Z f)]) (v := (g, A, μ)) hW) (x := (0, 14)) (in_r (by decide) (by decide)) rfl rfl) hl.1 rfl rfl (Nat.le_of_ble_eq_true rfl) ⟨(Nat.le_of_ble_eq_true rfl), (Nat.le_of_ble_eq_true rfl)⟩ ⟨(Nat.le_of_ble_eq_true rfl), (Nat.le_of_ble_eq_true rfl)⟩ dL_sampleByFilter_5 (fun n u H locs q9 ce hpx hW h7 h8 h9 => ?_) (fun r u H locs hp hW => ?_)
  · have hpx2 := hpx
    rcases hpx2.2 with ⟨rfl, hc⟩ | ⟨rfl, hc⟩
    · refine vx_catch (E := "java/lang/IndexOutOfBoundsException") (name := "java/lang/IndexOutOfBoundsException") S.2.2.2.1 [] ⟨0, 10, 13, 21⟩ [⟨0, 10, 17, 45⟩] htab (fun _ h => absurd h List.not_mem_nil) (by decide) (by decide) (S.2.2.2.2 _ g_702) (tw_bef hZ hW.2.2.2.2.2 S.2.2.2.2 (Or.inr n_560)) h7 h8 h9 ?_
      refine lv_astore (lv' := [(4, .ref q9), (0, .ref (A (0, 14))), (1, .int x), (2, .int y), (3, .ref ao)]) hxe hcd dL_sampleByFilter_13 hl (by decide) rfl (fun ls hl => ?_)
      refine lv_iconst (v := (nI 1)) hxe hcd dL_sampleByFilter_15 (by decide) ?_
      exact u_ret S hr hlk (F := fun (u : GM × (Nat → Int64)) => uW Z ao (oJ Z u.2) u.1) (u, f) hW (Nat.le_of_ble_eq_true rfl) (Nat.le_of_ble_eq_true rfl) (Or.inr ⟨1, hpx, Or.inl ⟨rfl, rfl⟩⟩) dL_sampleByFilter_16
    · refine vx_catch (E := "java/util/NoSuchElementException") (name := "java/util/NoSuchElementException") S.2.2.2.1 [⟨0, 10, 13, 21⟩] ⟨0, 10, 17, 45⟩ [] htab (List.forall_mem_cons.mpr ⟨Or.inr ⟨by decide, "java/lang/IndexOutOfBoundsException", S.2.2.2.2 _ g_702, hNC _ _ _ hW.2.2.2.2.2 ("java/util/NoSuchElementException", "java/lang/IndexOutOfBoundsException") (List.mem_of_getElem? (i := 3) rfl)⟩, (fun _ h => absurd h List.not_mem_nil)⟩) (by decide) (by decide) (S.2.2.2.2 _ g_799) (tw_bef hZ hW.2.2.2.2.2 S.2.2.2.2 (Or.inr n_663)) h7 h8 h9 ?_
      refine lv_astore (lv' := [(4, .ref q9), (0, .ref (A (0, 14))), (1, .int x), (2, .int y), (3, .ref ao)]) hxe hcd dL_sampleByFilter_17 hl (by decide) rfl (fun ls hl => ?_)
      refine lv_iconst (v := (nI 2)) hxe hcd dL_sampleByFilter_19 (by decide) ?_
      exact u_ret S hr hlk (F := fun (u : GM × (Nat → Int64)) => uW Z ao (oJ Z u.2) u.1) (u, f) hW (Nat.le_of_ble_eq_true rfl) (Nat.le_of_ble_eq_true rfl) (Or.inr ⟨4, hpx, Or.inr ⟨rfl, rfl⟩⟩) dL_sampleByFilter_20
  · refine lv_i2l (v := r.toInt64) hxe hcd dL_sampleByFilter_8 rfl ?_
    refine u_lst S hW dL_sampleByFilter_9 (fun H locs f2 hf2 hW => ?_)
    refine lv_goto (tgt := 21) hxe hcd dL_sampleByFilter_10 (by decide) ?_
    refine lv_iconst (v := (nI 0)) hxe hcd dL_sampleByFilter_21 (by decide) ?_
    exact u_ret S hr hlk (F := fun (u : GM × (Nat → Int64)) => uW Z ao (oJ Z u.2) u.1) (u, f2) hW (Nat.le_of_ble_eq_true rfl) (Nat.le_of_ble_eq_true rfl) (Or.inl ⟨rfl, r, hp, hf2⟩) dL_sampleByFilter_22
set_option maxHeartbeats 4000000 in
set_option maxRecDepth 100000 in
theorem t_L_mixedSample (l : Launch) (hl0 : l.stackTraces = false) {Z : ZT} (hZ : zOK Z) (hZX : ZX Z) (hNC : XNC Z) (ao : Nat) (f : Nat → Int64) (A : Nat × Nat → Nat) (g : Nat → Bool) (μ : CM) (sz : Nat) {v : Nat → Int32} (hVG : VG v) (hR : RP (μ 0) v) (x y z : Int32) : XW l yL_mixedSample cL_mixedSample 6 [(0, 12, 15, 21), (0, 12, 19, 45)] [.ref (A (0, 14)), .int x, .int y, .int z, .ref ao] Z ao (oJ Z) f (g, A, μ) sz (fun r u => (r = nI 0 ∧ ∃ x9 : Int32, (fun r u => ∃ q1 q2 i, q1 < 4 ∧ q2 < 4 ∧ x = nI q1 ∧ y = nI q2 ∧ z = nI i ∧ (i < lnV v q1 ∨ i < lnV v q2) ∧ r = ((if i < lnV v q1 then flV v q1 (nfV v) i else 0) + (if i < lnV v q2 then flV v q2 (nfV v) i else 0)) / nI 2 ∧ SM g A μ u) x9 u.1 ∧ u.2 0 = x9.toInt64) ∨ ∃ n9 : Nat, (fun n u => SM g A μ u ∧ ((n = 1 ∧ ¬ (IX x 4 ∧ IX y 4)) ∨ (n = 4 ∧ ∃ q1 q2, q1 < 4 ∧ q2 < 4 ∧ x = nI q1 ∧ y = nI q2 ∧ ¬ IX z (lnV v q1) ∧ ¬ IX z (lnV v q2)))) n9 u.1 ∧ ((n9 = 1 ∧ r = nI 1) ∨ (n9 = 4 ∧ r = nI 2))) := by
  refine u_met (ws := uW Z ao (oJ Z f) (g, A, μ)) (by decide +kernel) (Nat.le_of_ble_eq_true rfl) ?_
  intro p e s m below meth c ls S hr hlk htab hsz hW hl
  have hxe := S.1
  have hcd := S.2.1
  subst hsz
  have hl : lv_has ls 6 [(0, .ref (A (0, 14))), (1, .int x), (2, .int y), (3, .int z), (4, .ref ao)] := hl
  refine lv_aload hxe hcd dL_mixedSample_0 (lv_at hl 4 rfl) ?_
  refine lv_iconst (v := (nI 0)) hxe hcd dL_mixedSample_2 (by decide) ?_
  refine lv_aload_n hxe hcd dL_mixedSample_3 rfl (lv_at hl 0 rfl) ?_
  refine lv_iload_n hxe hcd dL_mixedSample_4 rfl (lv_at hl 1 rfl) ?_
  refine lv_iload_n hxe hcd dL_mixedSample_5 rfl (lv_at hl 2 rfl) ?_
  refine lv_iload_n hxe hcd dL_mixedSample_6 rfl (lv_at hl 3 rfl) ?_
  refine u_calli hZ S (wr := [(ao, oJ Z f)]) (v := (g, A, μ)) hW (As := [.int x, .int y, .int z]) (rest := [.int (nI 0), .ref ao]) (t_X9_mixedSample l hl0 hZ hZX A g μ s.heap.size hVG hR x y z) k_L_62 (r_recv (u_X (wr := [(ao, oJ Z f)]) (v := (g, A, μ)) hW) (x := (0, 14)) (in_r (by decide) (by decide)) rfl rfl) hl.1 rfl rfl (Nat.le_of_ble_eq_true rfl) ⟨(Nat.le_of_ble_eq_true rfl), (Nat.le_of_ble_eq_true rfl)⟩ ⟨(Nat.le_of_ble_eq_true rfl), (Nat.le_of_ble_eq_true rfl)⟩ dL_mixedSample_7 (fun n u H locs q9 ce hpx hW h7 h8 h9 => ?_) (fun r u H locs hp hW => ?_)
  · have hpx2 := hpx
    rcases hpx2.2 with ⟨rfl, hc⟩ | ⟨rfl, hc⟩
    · refine vx_catch (E := "java/lang/IndexOutOfBoundsException") (name := "java/lang/IndexOutOfBoundsException") S.2.2.2.1 [] ⟨0, 12, 15, 21⟩ [⟨0, 12, 19, 45⟩] htab (fun _ h => absurd h List.not_mem_nil) (by decide) (by decide) (S.2.2.2.2 _ g_702) (tw_bef hZ hW.2.2.2.2.2 S.2.2.2.2 (Or.inr n_560)) h7 h8 h9 ?_
      refine lv_astore (lv' := [(5, .ref q9), (0, .ref (A (0, 14))), (1, .int x), (2, .int y), (3, .int z), (4, .ref ao)]) hxe hcd dL_mixedSample_15 hl (by decide) rfl (fun ls hl => ?_)
      refine lv_iconst (v := (nI 1)) hxe hcd dL_mixedSample_17 (by decide) ?_
      exact u_ret S hr hlk (F := fun (u : GM × (Nat → Int64)) => uW Z ao (oJ Z u.2) u.1) (u, f) hW (Nat.le_of_ble_eq_true rfl) (Nat.le_of_ble_eq_true rfl) (Or.inr ⟨1, hpx, Or.inl ⟨rfl, rfl⟩⟩) dL_mixedSample_18
    · refine vx_catch (E := "java/util/NoSuchElementException") (name := "java/util/NoSuchElementException") S.2.2.2.1 [⟨0, 12, 15, 21⟩] ⟨0, 12, 19, 45⟩ [] htab (List.forall_mem_cons.mpr ⟨Or.inr ⟨by decide, "java/lang/IndexOutOfBoundsException", S.2.2.2.2 _ g_702, hNC _ _ _ hW.2.2.2.2.2 ("java/util/NoSuchElementException", "java/lang/IndexOutOfBoundsException") (List.mem_of_getElem? (i := 3) rfl)⟩, (fun _ h => absurd h List.not_mem_nil)⟩) (by decide) (by decide) (S.2.2.2.2 _ g_799) (tw_bef hZ hW.2.2.2.2.2 S.2.2.2.2 (Or.inr n_663)) h7 h8 h9 ?_
      refine lv_astore (lv' := [(5, .ref q9), (0, .ref (A (0, 14))), (1, .int x), (2, .int y), (3, .int z), (4, .ref ao)]) hxe hcd dL_mixedSample_19 hl (by decide) rfl (fun ls hl => ?_)
      refine lv_iconst (v := (nI 2)) hxe hcd dL_mixedSample_21 (by decide) ?_
      exact u_ret S hr hlk (F := fun (u : GM × (Nat → Int64)) => uW Z ao (oJ Z u.2) u.1) (u, f) hW (Nat.le_of_ble_eq_true rfl) (Nat.le_of_ble_eq_true rfl) (Or.inr ⟨4, hpx, Or.inr ⟨rfl, rfl⟩⟩) dL_mixedSample_22
  · refine lv_i2l (v := r.toInt64) hxe hcd dL_mixedSample_10 rfl ?_
    refine u_lst S hW dL_mixedSample_11 (fun H locs f2 hf2 hW => ?_)
    refine lv_goto (tgt := 23) hxe hcd dL_mixedSample_12 (by decide) ?_
    refine lv_iconst (v := (nI 0)) hxe hcd dL_mixedSample_23 (by decide) ?_
    exact u_ret S hr hlk (F := fun (u : GM × (Nat → Int64)) => uW Z ao (oJ Z u.2) u.1) (u, f2) hW (Nat.le_of_ble_eq_true rfl) (Nat.le_of_ble_eq_true rfl) (Or.inl ⟨rfl, r, hp, hf2⟩) dL_mixedSample_24
set_option maxHeartbeats 4000000 in
set_option maxRecDepth 100000 in
theorem t_L_peak (l : Launch) (hl0 : l.stackTraces = false) {Z : ZT} (hZ : zOK Z) (hZX : ZX Z) (hNC : XNC Z) (ao : Nat) (f : Nat → Int64) (A : Nat × Nat → Nat) (g : Nat → Bool) (μ : CM) (sz : Nat) {v : Nat → Int32} (hVG : VG v) (hR : RP (μ 0) v) (x : Int32) : XW l yL_peak cL_peak 4 [(0, 9, 12, 21), (0, 9, 15, 45)] [.ref (A (0, 14)), .int x, .ref ao] Z ao (oJ Z) f (g, A, μ) sz (fun r u => (r = nI 0 ∧ ∃ x9 : Int32, (fun r u => ∃ q, q < 4 ∧ x = nI q ∧ 0 < nnV v q ∧ r = maxR (fun k => iabs ((flV v q (nfV v)) k)) (lnV v q) ∧ SM g A μ u) x9 u.1 ∧ u.2 0 = x9.toInt64) ∨ ∃ n9 : Nat, (fun n u => SM g A μ u ∧ ((n = 1 ∧ ¬ IX x 4) ∨ (n = 4 ∧ ∃ q, q < 4 ∧ x = nI q ∧ nnV v q = 0))) n9 u.1 ∧ ((n9 = 1 ∧ r = nI 1) ∨ (n9 = 4 ∧ r = nI 2))) := by
  refine u_met (ws := uW Z ao (oJ Z f) (g, A, μ)) (by decide +kernel) (Nat.le_of_ble_eq_true rfl) ?_
  intro p e s m below meth c ls S hr hlk htab hsz hW hl
  have hxe := S.1
  have hcd := S.2.1
  subst hsz
  have hl : lv_has ls 4 [(0, .ref (A (0, 14))), (1, .int x), (2, .ref ao)] := hl
  refine lv_aload_n hxe hcd dL_peak_0 rfl (lv_at hl 2 rfl) ?_
  refine lv_iconst (v := (nI 0)) hxe hcd dL_peak_1 (by decide) ?_
  refine lv_aload_n hxe hcd dL_peak_2 rfl (lv_at hl 0 rfl) ?_
  refine lv_iload_n hxe hcd dL_peak_3 rfl (lv_at hl 1 rfl) ?_
  refine u_calli hZ S (wr := [(ao, oJ Z f)]) (v := (g, A, μ)) hW (As := [.int x]) (rest := [.int (nI 0), .ref ao]) (t_X9_peak l hl0 hZ hZX A g μ s.heap.size hVG hR x) k_L_66 (r_recv (u_X (wr := [(ao, oJ Z f)]) (v := (g, A, μ)) hW) (x := (0, 14)) (in_r (by decide) (by decide)) rfl rfl) hl.1 rfl rfl (Nat.le_of_ble_eq_true rfl) ⟨(Nat.le_of_ble_eq_true rfl), (Nat.le_of_ble_eq_true rfl)⟩ ⟨(Nat.le_of_ble_eq_true rfl), (Nat.le_of_ble_eq_true rfl)⟩ dL_peak_4 (fun n u H locs q9 ce hpx hW h7 h8 h9 => ?_) (fun r u H locs hp hW => ?_)
  · have hpx2 := hpx
    rcases hpx2.2 with ⟨rfl, hc⟩ | ⟨rfl, hc⟩
    · refine vx_catch (E := "java/lang/IndexOutOfBoundsException") (name := "java/lang/IndexOutOfBoundsException") S.2.2.2.1 [] ⟨0, 9, 12, 21⟩ [⟨0, 9, 15, 45⟩] htab (fun _ h => absurd h List.not_mem_nil) (by decide) (by decide) (S.2.2.2.2 _ g_702) (tw_bef hZ hW.2.2.2.2.2 S.2.2.2.2 (Or.inr n_560)) h7 h8 h9 ?_
      refine lv_astore_n (lv' := [(3, .ref q9), (0, .ref (A (0, 14))), (1, .int x), (2, .ref ao)]) hxe hcd dL_peak_12 rfl hl (by decide) rfl (fun ls hl => ?_)
      refine lv_iconst (v := (nI 1)) hxe hcd dL_peak_13 (by decide) ?_
      exact u_ret S hr hlk (F := fun (u : GM × (Nat → Int64)) => uW Z ao (oJ Z u.2) u.1) (u, f) hW (Nat.le_of_ble_eq_true rfl) (Nat.le_of_ble_eq_true rfl) (Or.inr ⟨1, hpx, Or.inl ⟨rfl, rfl⟩⟩) dL_peak_14
    · refine vx_catch (E := "java/util/NoSuchElementException") (name := "java/util/NoSuchElementException") S.2.2.2.1 [⟨0, 9, 12, 21⟩] ⟨0, 9, 15, 45⟩ [] htab (List.forall_mem_cons.mpr ⟨Or.inr ⟨by decide, "java/lang/IndexOutOfBoundsException", S.2.2.2.2 _ g_702, hNC _ _ _ hW.2.2.2.2.2 ("java/util/NoSuchElementException", "java/lang/IndexOutOfBoundsException") (List.mem_of_getElem? (i := 3) rfl)⟩, (fun _ h => absurd h List.not_mem_nil)⟩) (by decide) (by decide) (S.2.2.2.2 _ g_799) (tw_bef hZ hW.2.2.2.2.2 S.2.2.2.2 (Or.inr n_663)) h7 h8 h9 ?_
      refine lv_astore_n (lv' := [(3, .ref q9), (0, .ref (A (0, 14))), (1, .int x), (2, .ref ao)]) hxe hcd dL_peak_15 rfl hl (by decide) rfl (fun ls hl => ?_)
      refine lv_iconst (v := (nI 2)) hxe hcd dL_peak_16 (by decide) ?_
      exact u_ret S hr hlk (F := fun (u : GM × (Nat → Int64)) => uW Z ao (oJ Z u.2) u.1) (u, f) hW (Nat.le_of_ble_eq_true rfl) (Nat.le_of_ble_eq_true rfl) (Or.inr ⟨4, hpx, Or.inr ⟨rfl, rfl⟩⟩) dL_peak_17
  · refine lv_i2l (v := r.toInt64) hxe hcd dL_peak_7 rfl ?_
    refine u_lst S hW dL_peak_8 (fun H locs f2 hf2 hW => ?_)
    refine lv_goto (tgt := 18) hxe hcd dL_peak_9 (by decide) ?_
    refine lv_iconst (v := (nI 0)) hxe hcd dL_peak_18 (by decide) ?_
    exact u_ret S hr hlk (F := fun (u : GM × (Nat → Int64)) => uW Z ao (oJ Z u.2) u.1) (u, f2) hW (Nat.le_of_ble_eq_true rfl) (Nat.le_of_ble_eq_true rfl) (Or.inl ⟨rfl, r, hp, hf2⟩) dL_peak_19
set_option maxHeartbeats 4000000 in
set_option maxRecDepth 100000 in
theorem t_L_energy (l : Launch) (hl0 : l.stackTraces = false) {Z : ZT} (hZ : zOK Z) (hZX : ZX Z) (hNC : XNC Z) (ao : Nat) (f : Nat → Int64) (A : Nat × Nat → Nat) (g : Nat → Bool) (μ : CM) (sz : Nat) {v : Nat → Int32} (hVG : VG v) (hR : RP (μ 0) v) (x : Int32) : XW l yL_energy cL_energy 4 [(0, 8, 11, 21)] [.ref (A (0, 14)), .int x, .ref ao] Z ao (oJ Z) f (g, A, μ) sz (fun r u => (r = nI 0 ∧ ∃ x9 : Int64, (fun r u => ∃ q, q < 4 ∧ x = nI q ∧ r = sqS (flV v q (nfV v)) (lnV v q) ∧ SM g A μ u) x9 u.1 ∧ u.2 0 = x9) ∨ ∃ n9 : Nat, (fun n u => SM g A μ u ∧ ((n = 1 ∧ ¬ IX x 4))) n9 u.1 ∧ ((n9 = 1 ∧ r = nI 1))) := by
  refine u_met (ws := uW Z ao (oJ Z f) (g, A, μ)) (by decide +kernel) (Nat.le_of_ble_eq_true rfl) ?_
  intro p e s m below meth c ls S hr hlk htab hsz hW hl
  have hxe := S.1
  have hcd := S.2.1
  subst hsz
  have hl : lv_has ls 4 [(0, .ref (A (0, 14))), (1, .int x), (2, .ref ao)] := hl
  refine lv_aload_n hxe hcd dL_energy_0 rfl (lv_at hl 2 rfl) ?_
  refine lv_iconst (v := (nI 0)) hxe hcd dL_energy_1 (by decide) ?_
  refine lv_aload_n hxe hcd dL_energy_2 rfl (lv_at hl 0 rfl) ?_
  refine lv_iload_n hxe hcd dL_energy_3 rfl (lv_at hl 1 rfl) ?_
  refine u_calll hZ S (wr := [(ao, oJ Z f)]) (v := (g, A, μ)) hW (As := [.int x]) (rest := [.int (nI 0), .ref ao]) (t_X9_energy l hl0 hZ hZX A g μ s.heap.size hVG hR x) k_L_69 (r_recv (u_X (wr := [(ao, oJ Z f)]) (v := (g, A, μ)) hW) (x := (0, 14)) (in_r (by decide) (by decide)) rfl rfl) hl.1 rfl rfl (Nat.le_of_ble_eq_true rfl) ⟨(Nat.le_of_ble_eq_true rfl), (Nat.le_of_ble_eq_true rfl)⟩ ⟨(Nat.le_of_ble_eq_true rfl), (Nat.le_of_ble_eq_true rfl)⟩ dL_energy_4 (fun n u H locs q9 ce hpx hW h7 h8 h9 => ?_) (fun r u H locs hp hW => ?_)
  · have hpx2 := hpx
    obtain ⟨rfl, hc⟩ := hpx2.2
    refine vx_catch (E := "java/lang/IndexOutOfBoundsException") (name := "java/lang/IndexOutOfBoundsException") S.2.2.2.1 [] ⟨0, 8, 11, 21⟩ [] htab (fun _ h => absurd h List.not_mem_nil) (by decide) (by decide) (S.2.2.2.2 _ g_702) (tw_bef hZ hW.2.2.2.2.2 S.2.2.2.2 (Or.inr n_560)) h7 h8 h9 ?_
    refine lv_astore_n (lv' := [(3, .ref q9), (0, .ref (A (0, 14))), (1, .int x), (2, .ref ao)]) hxe hcd dL_energy_11 rfl hl (by decide) rfl (fun ls hl => ?_)
    refine lv_iconst (v := (nI 1)) hxe hcd dL_energy_12 (by decide) ?_
    exact u_ret S hr hlk (F := fun (u : GM × (Nat → Int64)) => uW Z ao (oJ Z u.2) u.1) (u, f) hW (Nat.le_of_ble_eq_true rfl) (Nat.le_of_ble_eq_true rfl) (Or.inr ⟨1, hpx, ⟨rfl, rfl⟩⟩) dL_energy_13
  · refine u_lst S hW dL_energy_7 (fun H locs f2 hf2 hW => ?_)
    refine lv_goto (tgt := 14) hxe hcd dL_energy_8 (by decide) ?_
    refine lv_iconst (v := (nI 0)) hxe hcd dL_energy_14 (by decide) ?_
    exact u_ret S hr hlk (F := fun (u : GM × (Nat → Int64)) => uW Z ao (oJ Z u.2) u.1) (u, f2) hW (Nat.le_of_ble_eq_true rfl) (Nat.le_of_ble_eq_true rfl) (Or.inl ⟨rfl, r, hp, hf2⟩) dL_energy_15
set_option maxHeartbeats 4000000 in
set_option maxRecDepth 100000 in
theorem t_L_signChanges (l : Launch) (hl0 : l.stackTraces = false) {Z : ZT} (hZ : zOK Z) (hZX : ZX Z) (hNC : XNC Z) (ao : Nat) (f : Nat → Int64) (A : Nat × Nat → Nat) (g : Nat → Bool) (μ : CM) (sz : Nat) {v : Nat → Int32} (hVG : VG v) (hR : RP (μ 0) v) (x : Int32) : XW l yL_signChanges cL_signChanges 4 [(0, 9, 12, 21)] [.ref (A (0, 14)), .int x, .ref ao] Z ao (oJ Z) f (g, A, μ) sz (fun r u => (r = nI 0 ∧ ∃ x9 : Int32, (fun r u => ∃ q, q < 4 ∧ x = nI q ∧ r = nI (chgN (flV v q (nfV v)) (lnV v q)) ∧ SM g A μ u) x9 u.1 ∧ u.2 0 = x9.toInt64) ∨ ∃ n9 : Nat, (fun n u => SM g A μ u ∧ ((n = 1 ∧ ¬ IX x 4))) n9 u.1 ∧ ((n9 = 1 ∧ r = nI 1))) := by
  refine u_met (ws := uW Z ao (oJ Z f) (g, A, μ)) (by decide +kernel) (Nat.le_of_ble_eq_true rfl) ?_
  intro p e s m below meth c ls S hr hlk htab hsz hW hl
  have hxe := S.1
  have hcd := S.2.1
  subst hsz
  have hl : lv_has ls 4 [(0, .ref (A (0, 14))), (1, .int x), (2, .ref ao)] := hl
  refine lv_aload_n hxe hcd dL_signChanges_0 rfl (lv_at hl 2 rfl) ?_
  refine lv_iconst (v := (nI 0)) hxe hcd dL_signChanges_1 (by decide) ?_
  refine lv_aload_n hxe hcd dL_signChanges_2 rfl (lv_at hl 0 rfl) ?_
  refine lv_iload_n hxe hcd dL_signChanges_3 rfl (lv_at hl 1 rfl) ?_
  refine u_calli hZ S (wr := [(ao, oJ Z f)]) (v := (g, A, μ)) hW (As := [.int x]) (rest := [.int (nI 0), .ref ao]) (t_X9_signChanges l hl0 hZ hZX A g μ s.heap.size hVG hR x) k_L_73 (r_recv (u_X (wr := [(ao, oJ Z f)]) (v := (g, A, μ)) hW) (x := (0, 14)) (in_r (by decide) (by decide)) rfl rfl) hl.1 rfl rfl (Nat.le_of_ble_eq_true rfl) ⟨(Nat.le_of_ble_eq_true rfl), (Nat.le_of_ble_eq_true rfl)⟩ ⟨(Nat.le_of_ble_eq_true rfl), (Nat.le_of_ble_eq_true rfl)⟩ dL_signChanges_4 (fun n u H locs q9 ce hpx hW h7 h8 h9 => ?_) (fun r u H locs hp hW => ?_)
  · have hpx2 := hpx
    obtain ⟨rfl, hc⟩ := hpx2.2
    refine vx_catch (E := "java/lang/IndexOutOfBoundsException") (name := "java/lang/IndexOutOfBoundsException") S.2.2.2.1 [] ⟨0, 9, 12, 21⟩ [] htab (fun _ h => absurd h List.not_mem_nil) (by decide) (by decide) (S.2.2.2.2 _ g_702) (tw_bef hZ hW.2.2.2.2.2 S.2.2.2.2 (Or.inr n_560)) h7 h8 h9 ?_
    refine lv_astore_n (lv' := [(3, .ref q9), (0, .ref (A (0, 14))), (1, .int x), (2, .ref ao)]) hxe hcd dL_signChanges_12 rfl hl (by decide) rfl (fun ls hl => ?_)
    refine lv_iconst (v := (nI 1)) hxe hcd dL_signChanges_13 (by decide) ?_
    exact u_ret S hr hlk (F := fun (u : GM × (Nat → Int64)) => uW Z ao (oJ Z u.2) u.1) (u, f) hW (Nat.le_of_ble_eq_true rfl) (Nat.le_of_ble_eq_true rfl) (Or.inr ⟨1, hpx, ⟨rfl, rfl⟩⟩) dL_signChanges_14
  · refine lv_i2l (v := r.toInt64) hxe hcd dL_signChanges_7 rfl ?_
    refine u_lst S hW dL_signChanges_8 (fun H locs f2 hf2 hW => ?_)
    refine lv_goto (tgt := 15) hxe hcd dL_signChanges_9 (by decide) ?_
    refine lv_iconst (v := (nI 0)) hxe hcd dL_signChanges_15 (by decide) ?_
    exact u_ret S hr hlk (F := fun (u : GM × (Nat → Int64)) => uW Z ao (oJ Z u.2) u.1) (u, f2) hW (Nat.le_of_ble_eq_true rfl) (Nat.le_of_ble_eq_true rfl) (Or.inl ⟨rfl, r, hp, hf2⟩) dL_signChanges_16
set_option maxHeartbeats 4000000 in
set_option maxRecDepth 100000 in
theorem t_L_addTank (l : Launch) (hl0 : l.stackTraces = false) {Z : ZT} (hZ : zOK Z) (hZX : ZX Z) (hNC : XNC Z) (ao : Nat) (f : Nat → Int64) (A : Nat × Nat → Nat) (g : Nat → Bool) (μ : CM) (sz : Nat) {v : Nat → Int32} (hVG : VG v) (hR : RP (μ 0) v) {kr cn : Nat} (hkr : kr < 8) (hk15 : μ 0 15 1 = nI kr) (hcn : μ 0 15 2 = nI cn) (hc8 : cn ≤ 8) (x : Int32) : XW l yL_addTank cL_addTank 4 [(0, 9, 12, 13), (0, 9, 15, 15)] [.ref (A (0, 14)), .int x, .ref ao] Z ao (oJ Z) f (g, A, μ) sz (fun r u => (r = nI 0 ∧ ∃ x9 : Int32, (fun r u => (nI 1 ≤ x ∧ x ≤ nI 9) ∧ ntV v < 4 ∧ r = nI (ntV v) ∧ CHG g A μ kr cn v (upd (upd (upd v (29 + 12 * ntV v + 0) x) (29 + 12 * ntV v + 1) (nI 9999)) 1 (nI (ntV v + 1))) u) x9 u.1 ∧ u.2 0 = x9.toInt64) ∨ ∃ n9 : Nat, (fun n u => SM g A μ u ∧ ((n = 2 ∧ ¬ (nI 1 ≤ x ∧ x ≤ nI 9)) ∨ (n = 3 ∧ (nI 1 ≤ x ∧ x ≤ nI 9) ∧ ¬ ntV v < 4))) n9 u.1 ∧ ((n9 = 2 ∧ r = nI 1) ∨ (n9 = 3 ∧ r = nI 2))) := by
  refine u_met (ws := uW Z ao (oJ Z f) (g, A, μ)) (by decide +kernel) (Nat.le_of_ble_eq_true rfl) ?_
  intro p e s m below meth c ls S hr hlk htab hsz hW hl
  have hxe := S.1
  have hcd := S.2.1
  subst hsz
  have hl : lv_has ls 4 [(0, .ref (A (0, 14))), (1, .int x), (2, .ref ao)] := hl
  refine lv_aload_n hxe hcd dL_addTank_0 rfl (lv_at hl 2 rfl) ?_
  refine lv_iconst (v := (nI 0)) hxe hcd dL_addTank_1 (by decide) ?_
  refine lv_aload_n hxe hcd dL_addTank_2 rfl (lv_at hl 0 rfl) ?_
  refine lv_iload_n hxe hcd dL_addTank_3 rfl (lv_at hl 1 rfl) ?_
  refine u_calli hZ S (wr := [(ao, oJ Z f)]) (v := (g, A, μ)) hW (As := [.int x]) (rest := [.int (nI 0), .ref ao]) (t_X9_addTank l hl0 hZ hZX A g μ s.heap.size hVG hR hkr hk15 hcn hc8 x) k_L_76 (r_recv (u_X (wr := [(ao, oJ Z f)]) (v := (g, A, μ)) hW) (x := (0, 14)) (in_r (by decide) (by decide)) rfl rfl) hl.1 rfl rfl (Nat.le_of_ble_eq_true rfl) ⟨(Nat.le_of_ble_eq_true rfl), (Nat.le_of_ble_eq_true rfl)⟩ ⟨(Nat.le_of_ble_eq_true rfl), (Nat.le_of_ble_eq_true rfl)⟩ dL_addTank_4 (fun n u H locs q9 ce hpx hW h7 h8 h9 => ?_) (fun r u H locs hp hW => ?_)
  · have hpx2 := hpx
    rcases hpx2.2 with ⟨rfl, hc⟩ | ⟨rfl, hc⟩
    · refine vx_catch (E := "java/lang/IllegalArgumentException") (name := "java/lang/IllegalArgumentException") S.2.2.2.1 [] ⟨0, 9, 12, 13⟩ [⟨0, 9, 15, 15⟩] htab (fun _ h => absurd h List.not_mem_nil) (by decide) (by decide) (S.2.2.2.2 _ g_539) (tw_bef hZ hW.2.2.2.2.2 S.2.2.2.2 (Or.inr n_631)) h7 h8 h9 ?_
      refine lv_astore_n (lv' := [(3, .ref q9), (0, .ref (A (0, 14))), (1, .int x), (2, .ref ao)]) hxe hcd dL_addTank_12 rfl hl (by decide) rfl (fun ls hl => ?_)
      refine lv_iconst (v := (nI 1)) hxe hcd dL_addTank_13 (by decide) ?_
      exact u_ret S hr hlk (F := fun (u : GM × (Nat → Int64)) => uW Z ao (oJ Z u.2) u.1) (u, f) hW (Nat.le_of_ble_eq_true rfl) (Nat.le_of_ble_eq_true rfl) (Or.inr ⟨2, hpx, Or.inl ⟨rfl, rfl⟩⟩) dL_addTank_14
    · refine vx_catch (E := "java/lang/IllegalStateException") (name := "java/lang/IllegalStateException") S.2.2.2.1 [⟨0, 9, 12, 13⟩] ⟨0, 9, 15, 15⟩ [] htab (List.forall_mem_cons.mpr ⟨Or.inr ⟨by decide, "java/lang/IllegalArgumentException", S.2.2.2.2 _ g_539, hNC _ _ _ hW.2.2.2.2.2 ("java/lang/IllegalStateException", "java/lang/IllegalArgumentException") (List.mem_of_getElem? (i := 0) rfl)⟩, (fun _ h => absurd h List.not_mem_nil)⟩) (by decide) (by decide) (S.2.2.2.2 _ g_540) (tw_bef hZ hW.2.2.2.2.2 S.2.2.2.2 (Or.inr n_647)) h7 h8 h9 ?_
      refine lv_astore_n (lv' := [(3, .ref q9), (0, .ref (A (0, 14))), (1, .int x), (2, .ref ao)]) hxe hcd dL_addTank_15 rfl hl (by decide) rfl (fun ls hl => ?_)
      refine lv_iconst (v := (nI 2)) hxe hcd dL_addTank_16 (by decide) ?_
      exact u_ret S hr hlk (F := fun (u : GM × (Nat → Int64)) => uW Z ao (oJ Z u.2) u.1) (u, f) hW (Nat.le_of_ble_eq_true rfl) (Nat.le_of_ble_eq_true rfl) (Or.inr ⟨3, hpx, Or.inr ⟨rfl, rfl⟩⟩) dL_addTank_17
  · refine lv_i2l (v := r.toInt64) hxe hcd dL_addTank_7 rfl ?_
    refine u_lst S hW dL_addTank_8 (fun H locs f2 hf2 hW => ?_)
    refine lv_goto (tgt := 18) hxe hcd dL_addTank_9 (by decide) ?_
    refine lv_iconst (v := (nI 0)) hxe hcd dL_addTank_18 (by decide) ?_
    exact u_ret S hr hlk (F := fun (u : GM × (Nat → Int64)) => uW Z ao (oJ Z u.2) u.1) (u, f2) hW (Nat.le_of_ble_eq_true rfl) (Nat.le_of_ble_eq_true rfl) (Or.inl ⟨rfl, r, hp, hf2⟩) dL_addTank_19
set_option maxHeartbeats 4000000 in
set_option maxRecDepth 100000 in
theorem t_L_setTuning (l : Launch) (hl0 : l.stackTraces = false) {Z : ZT} (hZ : zOK Z) (hZX : ZX Z) (hNC : XNC Z) (ao : Nat) (f : Nat → Int64) (A : Nat × Nat → Nat) (g : Nat → Bool) (μ : CM) (sz : Nat) {v : Nat → Int32} (hVG : VG v) (hR : RP (μ 0) v) {kr cn : Nat} (hkr : kr < 8) (hk15 : μ 0 15 1 = nI kr) (hcn : μ 0 15 2 = nI cn) (hc8 : cn ≤ 8) (x y : Int32) : XW l yL_setTuning cL_setTuning 5 [(0, 10, 13, 21), (0, 10, 17, 13)] [.ref (A (0, 14)), .int x, .int y, .ref ao] Z ao (oJ Z) f (g, A, μ) sz (fun r u => (r = nI 0 ∧ ∃ x9 : Int32, (fun r u => ∃ q, q < ntV v ∧ x = nI q ∧ (nI 0 ≤ y ∧ y ≤ nI 9999) ∧ r = v (29 + 12 * q + 1) ∧ CHG g A μ kr cn v (upd v (29 + 12 * q + 1) y) u) x9 u.1 ∧ u.2 0 = x9.toInt64) ∨ ∃ n9 : Nat, (fun n u => SM g A μ u ∧ ((n = 1 ∧ ¬ IX x (ntV v)) ∨ (n = 2 ∧ IX x (ntV v) ∧ ¬ (nI 0 ≤ y ∧ y ≤ nI 9999)))) n9 u.1 ∧ ((n9 = 1 ∧ r = nI 1) ∨ (n9 = 2 ∧ r = nI 2))) := by
  refine u_met (ws := uW Z ao (oJ Z f) (g, A, μ)) (by decide +kernel) (Nat.le_of_ble_eq_true rfl) ?_
  intro p e s m below meth c ls S hr hlk htab hsz hW hl
  have hxe := S.1
  have hcd := S.2.1
  subst hsz
  have hl : lv_has ls 5 [(0, .ref (A (0, 14))), (1, .int x), (2, .int y), (3, .ref ao)] := hl
  refine lv_aload_n hxe hcd dL_setTuning_0 rfl (lv_at hl 3 rfl) ?_
  refine lv_iconst (v := (nI 0)) hxe hcd dL_setTuning_1 (by decide) ?_
  refine lv_aload_n hxe hcd dL_setTuning_2 rfl (lv_at hl 0 rfl) ?_
  refine lv_iload_n hxe hcd dL_setTuning_3 rfl (lv_at hl 1 rfl) ?_
  refine lv_iload_n hxe hcd dL_setTuning_4 rfl (lv_at hl 2 rfl) ?_
  refine u_calli hZ S (wr := [(ao, oJ Z f)]) (v := (g, A, μ)) hW (As := [.int x, .int y]) (rest := [.int (nI 0), .ref ao]) (t_X9_setTuning l hl0 hZ hZX A g μ s.heap.size hVG hR hkr hk15 hcn hc8 x y) k_L_79 (r_recv (u_X (wr := [(ao, oJ Z f)]) (v := (g, A, μ)) hW) (x := (0, 14)) (in_r (by decide) (by decide)) rfl rfl) hl.1 rfl rfl (Nat.le_of_ble_eq_true rfl) ⟨(Nat.le_of_ble_eq_true rfl), (Nat.le_of_ble_eq_true rfl)⟩ ⟨(Nat.le_of_ble_eq_true rfl), (Nat.le_of_ble_eq_true rfl)⟩ dL_setTuning_5 (fun n u H locs q9 ce hpx hW h7 h8 h9 => ?_) (fun r u H locs hp hW => ?_)
  · have hpx2 := hpx
    rcases hpx2.2 with ⟨rfl, hc⟩ | ⟨rfl, hc⟩
    · refine vx_catch (E := "java/lang/IndexOutOfBoundsException") (name := "java/lang/IndexOutOfBoundsException") S.2.2.2.1 [] ⟨0, 10, 13, 21⟩ [⟨0, 10, 17, 13⟩] htab (fun _ h => absurd h List.not_mem_nil) (by decide) (by decide) (S.2.2.2.2 _ g_702) (tw_bef hZ hW.2.2.2.2.2 S.2.2.2.2 (Or.inr n_560)) h7 h8 h9 ?_
      refine lv_astore (lv' := [(4, .ref q9), (0, .ref (A (0, 14))), (1, .int x), (2, .int y), (3, .ref ao)]) hxe hcd dL_setTuning_13 hl (by decide) rfl (fun ls hl => ?_)
      refine lv_iconst (v := (nI 1)) hxe hcd dL_setTuning_15 (by decide) ?_
      exact u_ret S hr hlk (F := fun (u : GM × (Nat → Int64)) => uW Z ao (oJ Z u.2) u.1) (u, f) hW (Nat.le_of_ble_eq_true rfl) (Nat.le_of_ble_eq_true rfl) (Or.inr ⟨1, hpx, Or.inl ⟨rfl, rfl⟩⟩) dL_setTuning_16
    · refine vx_catch (E := "java/lang/IllegalArgumentException") (name := "java/lang/IllegalArgumentException") S.2.2.2.1 [⟨0, 10, 13, 21⟩] ⟨0, 10, 17, 13⟩ [] htab (List.forall_mem_cons.mpr ⟨Or.inr ⟨by decide, "java/lang/IndexOutOfBoundsException", S.2.2.2.2 _ g_702, hNC _ _ _ hW.2.2.2.2.2 ("java/lang/IllegalArgumentException", "java/lang/IndexOutOfBoundsException") (List.mem_of_getElem? (i := 1) rfl)⟩, (fun _ h => absurd h List.not_mem_nil)⟩) (by decide) (by decide) (S.2.2.2.2 _ g_539) (tw_bef hZ hW.2.2.2.2.2 S.2.2.2.2 (Or.inr n_631)) h7 h8 h9 ?_
      refine lv_astore (lv' := [(4, .ref q9), (0, .ref (A (0, 14))), (1, .int x), (2, .int y), (3, .ref ao)]) hxe hcd dL_setTuning_17 hl (by decide) rfl (fun ls hl => ?_)
      refine lv_iconst (v := (nI 2)) hxe hcd dL_setTuning_19 (by decide) ?_
      exact u_ret S hr hlk (F := fun (u : GM × (Nat → Int64)) => uW Z ao (oJ Z u.2) u.1) (u, f) hW (Nat.le_of_ble_eq_true rfl) (Nat.le_of_ble_eq_true rfl) (Or.inr ⟨2, hpx, Or.inr ⟨rfl, rfl⟩⟩) dL_setTuning_20
  · refine lv_i2l (v := r.toInt64) hxe hcd dL_setTuning_8 rfl ?_
    refine u_lst S hW dL_setTuning_9 (fun H locs f2 hf2 hW => ?_)
    refine lv_goto (tgt := 21) hxe hcd dL_setTuning_10 (by decide) ?_
    refine lv_iconst (v := (nI 0)) hxe hcd dL_setTuning_21 (by decide) ?_
    exact u_ret S hr hlk (F := fun (u : GM × (Nat → Int64)) => uW Z ao (oJ Z u.2) u.1) (u, f2) hW (Nat.le_of_ble_eq_true rfl) (Nat.le_of_ble_eq_true rfl) (Or.inl ⟨rfl, r, hp, hf2⟩) dL_setTuning_22
